theorem ik_at {S : Sto} {i : Nat} (h : i < 2) : ikS S 2 (106 + 4 * i) 2 = nI 0 := by
  show up2 (up2 S (106 + 4 * 0) 2 (nI 0)) (106 + 4 * 1) 2 (nI 0) (106 + 4 * i) 2 = nI 0
  rcases (show i = 0 ∨ i = 1 by omega) with rfl | rfl
  · rw [up2_ne _ _ _ (by omega), up2_same, pk_us]
  · rw [up2_same, pk_us]
theorem m10 {k : Nat} (h : k ≤ 4) (hk : ¬ k = 0) : ¬ nI k ≤ 0 := nI_nle (by omega) (by omega)
theorem m_wall : Both2 yX10_wall cX10_wall 3 yX11_wall cX11_wall 2 [] := by
  intro l C S hC hR
  obtain ⟨pp, sp, hh, ww, nl, nc, nf, u, e, nb, n, h⟩ := id hR
  obtain ⟨k0, k1, k2, k3, k4⟩ := pl_sh h.1.pl
  obtain ⟨j0, j1, j2, j3, j4⟩ := pl_sh h.1.ps
  have hpp := h.1.2.2
  obtain ⟨a, b, c, d, f, g, i, j, x⟩ := id h
  obtain ⟨t1, t2, t3, t4, t6, t5⟩ := x
  have c1 := c_X10_wall l C hC S pp h.1.hpl k0 k1 k2 k3 k4 sp h.1.hps j0 j1 j2 j3 j4 (by omega) (by omega) n t3 (qOf S)
  rw [RS_self t1] at c1
  have rdo : ∀ i, (i < sp ∨ sp + 4 < i) → (rdR S sp n (qOf S)).1 i = S i := fun i hi => rd_o hi
  by_cases z : (rdR S sp n (qOf S)).2.1 = 0
  · rw [if_pos z, if_pos z] at c1
    -- what the class leaves
    have wO : ∀ i, i ≠ 0 → i ≠ 1 → i ≠ 3 → i ≠ 4 → i ≠ 5 → i ≠ 91 → i ≠ 41 → (i < 106 ∨ 113 < i) → wallS S sp pp n (qOf S) i = (rdR S sp n (qOf S)).1 i := fun i h0 h1 h3 h4 h5 h6 h7 h8 => by
      unfold wallS
      rw [ik_o h8 2 (by omega)]
      unfold wallT
      rw [up2_ne _ _ _ h7, up2_ne _ _ _ h6, beg_o h3 h4 h5, up2_ne _ _ _ h0, up2_ne _ _ _ h0, RS_o h1]
    have w0 : wallS S sp pp n (qOf S) 0 8 = nI sp ∧ wallS S sp pp n (qOf S) 0 9 = nI pp := by
      unfold wallS
      rw [ik_o (by omega) 2 (by omega), wallT_0, up2_same, pk_un (by omega), up2_same, pk_us, pk_us]
      exact ⟨rfl, rfl⟩
    have w1 : wallS S sp pp n (qOf S) 1 1 = nI 0 ∧ wallS S sp pp n (qOf S) 1 3 = (rdR S sp n (qOf S)).2.2.1 := by
      have : wallS S sp pp n (qOf S) 1 = RS (rdR S sp n (qOf S)).1 0 (rdR S sp n (qOf S)).2 1 := by
        unfold wallS
        rw [ik_o (by omega) 2 (by omega)]
        unfold wallT
        rw [up2_ne _ _ _ (by omega), up2_ne _ _ _ (by omega), beg_o (by omega) (by omega) (by omega), up2_ne _ _ _ (by omega), up2_ne _ _ _ (by omega)]
      rw [this, RS_1, RS_3]
      exact ⟨rfl, rfl⟩
    have wB : ∀ i, (i = 3 ∨ i = 4 ∨ i = 5) → wallS S sp pp n (qOf S) i = begS (up2 (up2 (RS (rdR S sp n (qOf S)).1 0 (rdR S sp n (qOf S)).2) 0 8 (nI sp)) 0 9 (nI pp)) 3 sp i := fun i hi => by
      unfold wallS
      rw [ik_o (by omega) 2 (by omega)]
      unfold wallT
      rw [up2_ne _ _ _ (by omega), up2_ne _ _ _ (by omega)]
    have w91 : wallS S sp pp n (qOf S) 91 2 = nI 0 := by
      unfold wallS
      rw [ik_o (by omega) 2 (by omega)]
      unfold wallT
      rw [up2_ne _ _ _ (by omega), up2_same, pk_us]
    have w41 : wallS S sp pp n (qOf S) 41 2 = nI 0 ∧ wallS S sp pp n (qOf S) 41 1 = S 41 1 := by
      unfold wallS
      rw [ik_o (by omega) 2 (by omega)]
      unfold wallT
      rw [up2_same, pk_us, pk_un (by omega), up2_ne _ _ _ (by omega), beg_o (by omega) (by omega) (by omega), up2_ne _ _ _ (by omega), up2_ne _ _ _ (by omega), RS_o (by omega), rdo 41 (by omega)]
      exact ⟨rfl, rfl⟩
    have wI : ∀ i, i < 2 → wallS S sp pp n (qOf S) (106 + 4 * i) 2 = nI 0 := fun i hi => by unfold wallS; exact ik_at hi
    obtain ⟨bg1, bg2, bg3, bg4, bg5, bg6, bg7⟩ := beg_at (S := up2 (up2 (RS (rdR S sp n (qOf S)).1 0 (rdR S sp n (qOf S)).2) 0 8 (nI sp)) 0 9 (nI pp)) (sp := sp) (by omega)
    have xO : ∀ i, i ≠ 0 → i ≠ 1 → up2 (up2 (RS (rdR S sp n (qOf S)).1 0 (rdR S sp n (qOf S)).2) 0 8 (nI sp)) 0 9 (nI pp) i = (rdR S sp n (qOf S)).1 i := fun i h1 h2 => by rw [up2_ne _ _ _ h1, up2_ne _ _ _ h1, RS_o h2]
    rw [← wB 4 (by omega)] at bg1
    rw [← wB 5 (by omega), xO (sp + 1) (by omega) (by omega)] at bg2
    rw [← wB 3 (by omega)] at bg3 bg4 bg5 bg6 bg7
    rw [xO sp (by omega) (by omega)] at bg3
    generalize hS1 : wallS S sp pp n (qOf S) = S1 at *
    have fr : ∀ i, 114 ≤ i → S1 i = S i := fun i hi => by rw [wO i (by omega) (by omega) (by omega) (by omega) (by omega) (by omega) (by omega) (by omega), rdo i (by omega)]
    have h1 := h.cU fr
    have c2 := c_X11_wall l C hC S1 n h1.2.2.2.2.2.2.2.2.2.1 t3
    obtain ⟨ro, rO, rK⟩ := read_rel (T := S) (U := S1) (sp := sp) (n := n) (q := qOf S) t3 (by omega) h1.2.2.2.2.2.2.2.2.2.1 (by rw [t6, fr 120 (by omega)]) (by rw [fr 120 (by omega)]; exact t5)
    rcases ro with ⟨_, v0, e14, wt, hh', ww', kl', kc', kf', rr⟩ | ⟨y, _⟩
    · generalize hV : (mwR S1 n).2 = V at *
      rw [v0, if_pos (show nI 0 ≤ 0 by decide), if_pos (show nI 0 ≤ 0 by decide)] at c2
      have h25 := rr.n25
      obtain ⟨⟨p4, p5, p6, p7, p8, p9, p10, p11⟩, ⟨v18, v19, v20, v22, v25, v27, vw⟩, hor, ⟨b1, b2, b3, b4, b5⟩, hl, hcr, hf⟩ := id rr
      obtain ⟨⟨g0, g1, g2, g4, g7, g13, g32, g35⟩, gk, g116, g117, g118, g119, g1330, g1331, gO⟩ := mwal_at (V := V) (kl := kl') (kc := kc') (kf := kf') (by unfold kN; rw [v20, nI_clamp (by omega)]) (by unfold kN; rw [v22, nI_clamp (by omega)]) (by unfold kN; rw [v25, nI_clamp (by omega)])
      have sE : ∀ i, sp ≤ i → i ≤ sp + 4 → S1 i = (rdR S sp n (qOf S)).1 i := fun i h1 h2 => wO i (by omega) (by omega) (by omega) (by omega) (by omega) (by omega) (by omega) (by omega)
      have sO : ∀ i, (i = 2 ∨ (5 < i ∧ i ≤ 40) ∨ (41 < i ∧ i ≤ 90) ∨ i = 94) → S1 i = S i := fun i hi => by rw [wO i (by omega) (by omega) (by omega) (by omega) (by omega) (by omega) (by omega) (by omega), rdo i (by omega)]
      have pl : PLR S1 sp (mwalS V) hh' ww' kl' kc' kf' := by
        refine ⟨?_, ⟨by rw [g0, v18], by rw [g1, v19], by rw [g2, v20], by rw [g4, v22], by rw [g7, v25]⟩, hor, ⟨b1, b2, b3, b4, b5⟩, fun c hc => ?_, fun q hq => ?_⟩
        · rw [sE sp (by omega) (by omega)]; exact ⟨p4, p5, p6, p8, p9, p10, p11⟩
        · obtain ⟨y1, y2, r1, r2, r3, r4, r5, r6, r7⟩ := hcr c hc
          rw [sE _ (by omega) (by omega), sE _ (by omega) (by omega), g116, g117]
          exact ⟨y1, y2, r1, r2, r3, r4, r5, (if_pos hc).trans r6, (if_pos hc).trans r7⟩
        · rw [sE _ (by omega) (by omega), g118]
          have e : cpN kf' (V 124) (V 118) q = V 124 q := if_pos hq
          rw [e]
          exact hf q hq
      have dm : DM S1 3 (mwalS V 119) (hh' * ww') kl' := by
        have n9 : ∀ k, k < 25 → mwalS V 119 k = nI 0 := fun k hk => by
          rw [g119, pk_un (by omega)]
          unfold putW
          rw [if_neg (by omega)]
          exact if_pos (by omega)
        have n0 : ∀ k, 29 < k → k < 34 → mwalS V 119 k = nI 0 := fun k hk hk2 => by
          rw [g119, pk_un (by omega)]
          unfold putW
          rw [if_neg (by omega)]
          exact if_pos (by omega)
        refine ⟨fun y hy => ?_, fun y hy hy2 => ?_, fun q hq => ?_, ?_⟩
        · rw [bg1, n9 y (by omega)]
          exact ⟨if_pos (by omega), 0, by omega, rfl⟩
        · rw [bg1]
          exact if_pos hy2
        · obtain ⟨y, hy, r1, r2⟩ := hl q hq
          have e1 : mwalS V 119 (25 + q) = nI y := by
            rw [g119, pk_un (by omega)]
            unfold putW
            rw [if_pos (by omega), show 25 + q - 25 = q by omega]
            exact (if_pos hq).trans r2
          have e2 : S1 5 q = nI y := by rw [bg2]; exact (if_pos (by omega)).trans r1
          rw [e1]
          exact ⟨e2, y, hy, rfl⟩
        · rw [bg3, bg4, bg5, bg6, bg7, n0 30 (by omega) (by omega), n0 31 (by omega) (by omega), n0 32 (by omega) (by omega), n0 33 (by omega) (by omega), g119, pk_us, p7]
          exact ⟨rfl, rfl, rfl, rfl, rfl⟩
      have fin : R S1 (mwalS V) sp pp hh' ww' kl' kc' kf' 0 e 0 0 := by
        refine ⟨⟨w0.1, w0.2, hpp.elim (fun q => Or.inr ⟨q.2, q.1⟩) (fun q => Or.inl ⟨q.2, q.1⟩)⟩, pl, dm, ⟨d.1.c (sO _ (by omega)), d.2.c (sO _ (by omega))⟩, ?_, ?_, fun k hk => ?_, ?_, ?_⟩
        · refine f.c (by rw [sO 94 (by omega)]) ?_
          rw [gk 11 (by omega), rK 11 (by omega), fr 114 (by omega)]
        · exact ⟨w41.1, g32, by omega, by rw [w41.2]; exact g.2.2.2.1, g.2.2.2.2.1, fun k hk => by omega⟩
        · have e3 : mwalS V 133 k = nI 0 := by
            rcases (show k = 0 ∨ k = 1 by omega) with rfl | rfl
            · exact g1330
            · exact g1331
          rw [wI k hk, e3]
          exact ⟨rfl, fun z => absurd (show nI 0 = 0 from by decide) z⟩
        · exact ⟨w91, g35, by omega, fun k hk => by omega⟩
        · refine ⟨w1.1, g13, by omega, ?_, ?_, fun k hk => by omega⟩
          · rw [w1.2, e14, gk 14 (by omega)]
          · rw [sO 2 (by omega), gO 120 (by omega), rO 120 (by omega) (by omega), fr 120 (by omega), t6]
      refine both_do c1 c2 ⟨?_, fin.rr⟩ (fun i hi => ?_) (by decide) (by decide)
      · rw [pl.mc]
        unfold plCells
        rw [p4, p5, pk_mul]
      · rw [gO i (by omega), rO i (by omega) (by omega)]
    · exact absurd z y
  · rw [if_neg z, if_neg z] at c1
    have xO : ∀ i, i ≠ 1 → (i < sp ∨ sp + 4 < i) → RS (rdR S sp n (qOf S)).1 0 (rdR S sp n (qOf S)).2 i = S i := fun i h1 h2 => by rw [RS_o h1, rdo i h2]
    have x1 : RS (rdR S sp n (qOf S)).1 0 (rdR S sp n (qOf S)).2 1 1 = nI 0 ∧ RS (rdR S sp n (qOf S)).1 0 (rdR S sp n (qOf S)).2 1 3 = (rdR S sp n (qOf S)).2.2.1 := ⟨RS_1, RS_3⟩
    generalize hS1 : RS (rdR S sp n (qOf S)).1 0 (rdR S sp n (qOf S)).2 = S1 at *
    have fr : ∀ i, 114 ≤ i → S1 i = S i := fun i hi => xO i (by omega) (by omega)
    have h1 := h.cU fr
    have c2 := c_X11_wall l C hC S1 n h1.2.2.2.2.2.2.2.2.2.1 t3
    obtain ⟨ro, rO, rK⟩ := read_rel (T := S) (U := S1) (sp := sp) (n := n) (q := qOf S) t3 (by omega) h1.2.2.2.2.2.2.2.2.2.1 (by rw [t6, fr 120 (by omega)]) (by rw [fr 120 (by omega)]; exact t5)
    rcases ro with ⟨y, _⟩ | ⟨_, k4', v0, e14⟩
    · exact absurd y z
    · rw [v0, if_neg (m10 k4' z), if_neg (m10 k4' z)] at c2
      generalize hV : (mwR S1 n).2 = V at *
      have uO : ∀ i, i ≠ 114 → (i < 121 ∨ 124 < i) → up2 V 114 13 (nI 0) i = S1 i := fun i g1 g2 => by rw [up2_ne _ _ _ g1, rO i g1 g2]
      have uK : ∀ k, (k < 13 ∨ 28 < k) → up2 V 114 13 (nI 0) 114 k = S1 114 k := fun k hk => by rw [up114b (by omega), rK k (by omega)]
      obtain ⟨a', b', c', d', f', g', i', j', x'⟩ := h1
      have fin : R S1 (up2 V 114 13 (nI 0)) pp sp hh ww nl nc nf u e nb 0 := by
        refine ⟨a'.c (xO 0 (by omega) (by omega)), (b'.cT (xO _ (by omega) (by omega)) (xO _ (by omega) (by omega)) (xO _ (by omega) (by omega)) (xO _ (by omega) (by omega))).cU (fun k _ => uK k (by omega)) (uO _ (by omega) (by omega)) (uO _ (by omega) (by omega)) (uO _ (by omega) (by omega)), by rw [uO 119 (by omega) (by omega)]; exact c'.cT (xO _ (by omega) (by omega)) (xO _ (by omega) (by omega)) (xO _ (by omega) (by omega)), ⟨d'.1.c (xO _ (by omega) (by omega)), d'.2.c (xO _ (by omega) (by omega))⟩, f'.c (by rw [xO 94 (by omega) (by omega)]) (uK 11 (by omega)), g'.c (fun i _ h => xO i (by omega) (by omega)) (uK 32 (by omega)) (uO _ (by omega) (by omega)), i'.c (fun i _ h => xO i (by omega) (by omega)) (uO _ (by omega) (by omega)) (uO _ (by omega) (by omega)), j'.c (fun i _ h => xO i (by omega) (by omega)) (uK 35 (by omega)) (uO _ (by omega) (by omega)) (uO _ (by omega) (by omega)), ?_⟩
        refine ⟨x1.1, by rw [up2_same, pk_us], by omega, ?_, ?_, fun k hk => by omega⟩
        · rw [x1.2, e14, up114b (by omega)]
        · rw [xO 2 (by omega) (by omega), uO 120 (by omega) (by omega), fr 120 (by omega), t6]
      exact both_do c1 c2 ⟨rfl, fin.rr⟩ (fun i hi => by rw [up2_ne _ _ _ (by omega), rO i (by omega) (by omega)]) (by decide) (by decide)
