/-! images -/
theorem kep_o {S : Sto} {k i : Nat} (hk : k < 2) (h : i < 106 ∨ 113 < i) (h2 : i ≠ 41) : keepS S k i = S i := by
  unfold keepS
  try dsimp only
  rw [up2_ne _ _ _ h2, up2_ne _ _ _ (by omega), up2_ne _ _ _ (by omega), cop_o (by omega) (by omega) (by omega)]
theorem R.kep {T U : Sto} {pp sp hh ww nl nc nf u e nb n k : Nat} (h : R T U pp sp hh ww nl nc nf u e nb n) (hk : k < 2) : R (keepS T k) (mkpS U k) pp sp hh ww nl nc nf 0 e nb n := by
  obtain ⟨a, b, c, d, f, ⟨a1, a2, a3, a4, a5, a6⟩, i, j, x⟩ := h
  have := a.pl
  have hn := b.n25
  have hl := b.2.2.2.1.2.2.1
  have hT : ∀ i, (i < 106 ∨ 113 < i) → i ≠ 41 → keepS T k i = T i := fun i h1 h2 => kep_o hk h1 h2
  have hU : ∀ i, i ≠ 114 → i ≠ 132 → i ≠ 133 → mkpS U k i = U i := fun i h1 h2 h3 => by unfold mkpS; rw [up2_ne _ _ _ h1, up2_ne _ _ _ h3, up2_ne _ _ _ h2, upA_ne _ _ h2]
  have hU1 : ∀ j, j ≠ 32 → mkpS U k 114 j = U 114 j := fun j hj => by unfold mkpS; rw [up2_same, pk_un hj, up2_ne _ _ _ (by omega), up2_ne _ _ _ (by omega), upA_ne _ _ (by omega)]
  refine ⟨a.c (hT 0 (by omega) (by omega)), (b.cT (hT _ (by omega) (by omega)) (hT _ (by omega) (by omega)) (hT _ (by omega) (by omega)) (hT _ (by omega) (by omega))).cU (fun k _ => hU1 k (by omega)) (hU _ (by omega) (by omega) (by omega)) (hU _ (by omega) (by omega) (by omega)) (hU _ (by omega) (by omega) (by omega)), ?_, ⟨d.1.c (hT _ (by omega) (by omega)), d.2.c (hT _ (by omega) (by omega))⟩, f.c (by rw [hT _ (by omega) (by omega)]) (hU1 _ (by omega)), ?_, ?_, j.c (fun i _ h => hT i (by omega) (by omega)) (hU1 _ (by omega)) (hU _ (by omega) (by omega) (by omega)) (hU _ (by omega) (by omega) (by omega)), x.c (hT _ (by omega) (by omega)) (hT _ (by omega) (by omega)) (hU1 _ (by omega)) (hU1 _ (by omega)) (hU _ (by omega) (by omega) (by omega))⟩
  · rw [hU 119 (by omega) (by omega) (by omega)]
    exact c.cT (hT _ (by omega) (by omega)) (hT _ (by omega) (by omega)) (hT _ (by omega) (by omega))
  · refine ⟨?_, ?_, by omega, ?_, a5, fun k hk => by omega⟩
    · unfold keepS
      try dsimp only
      rw [up2_same, pk_us]
    · unfold mkpS
      rw [up2_same, pk_us]
    · unfold keepS
      try dsimp only
      rw [up2_same, pk_un (by omega), up2_ne _ _ _ (by omega), up2_ne _ _ _ (by omega), cop_o (by omega) (by omega) (by omega)]
      exact a4
  · intro q hq
    have u3 : mkpS U k 133 = upd (U 133) k (nI 1) := by unfold mkpS; rw [up2_ne _ _ _ (by omega), up2_same, up2_ne _ _ _ (by omega), upA_ne _ _ (by omega)]
    have u2 : mkpS U k 132 = upd (putW (U 132) (U 119) (35 * k) 34) (35 * k + 34) (U 114 11) := by unfold mkpS; rw [up2_ne _ _ _ (by omega), up2_ne _ _ _ (by omega), up2_same, upA_same]
    have tk : keepS T k (106 + 4 * k) = upd (upd (T (106 + 4 * k)) 1 (T 94 0)) 2 (nI 1) := by
      unfold keepS
      try dsimp only
      rw [up2_ne _ _ _ (by omega), up2_same, up2_same, cop_o (by omega) (by omega) (by omega), cop_o (i := 94) (by omega) (by omega) (by omega)]
    have tc : ∀ i, 106 ≤ i → i ≤ 113 → i ≠ 106 + 4 * k → keepS T k i = copS T (106 + 4 * k + 1) 3 i := fun i h1 h2 h3 => by
      unfold keepS
      try dsimp only
      rw [up2_ne _ _ _ (by omega), up2_ne _ _ _ h3, up2_ne _ _ _ h3]
    by_cases e : q = k
    · subst e
      rw [u3, u2, tk, pk_us, pk_us]
      refine ⟨rfl, fun _ => ⟨?_, ?_⟩⟩
      · refine ((c.cop (dd := 106 + 4 * q + 1) (by omega) hn hl).cT (tc _ (by omega) (by omega) (by omega)) (tc _ (by omega) (by omega) (by omega)) (tc _ (by omega) (by omega) (by omega))).cF hn hl (fun j hj => ?_)
        rw [pk_un (by omega)]
        unfold putW
        rw [if_pos (by omega)]
        congr 1
        omega
      · obtain ⟨s, hs, e1, e2⟩ := f
        refine ⟨s, hs, ?_, ?_⟩
        · rw [pk_un (by omega), pk_us, e1]
        · rw [pk_us, e2]
    · have t0 : ∀ i, 106 + 4 * q ≤ i → i ≤ 106 + 4 * q + 3 → keepS T k i = T i := fun i h1 h2 => by rw [tc i (by omega) (by omega) (by omega), cop_o (by omega) (by omega) (by omega)]
      have w0 : ∀ j, j ≤ 34 → mkpS U k 132 (35 * q + j) = U 132 (35 * q + j) := fun j hj => by
        rw [u2, pk_un (by omega)]
        unfold putW
        rw [if_neg (by omega)]
      obtain ⟨b1, b2⟩ := i q hq
      rw [u3, pk_un e, t0 _ (by omega) (by omega), w0 34 (by omega)]
      refine ⟨b1, fun z => ⟨?_, (b2 z).2⟩⟩
      exact ((b2 z).1.cT (t0 _ (by omega) (by omega)) (t0 _ (by omega) (by omega)) (t0 _ (by omega) (by omega))).cF hn hl (fun j hj => w0 j (by omega))
theorem bak_o {S : Sto} {k i : Nat} (h : i < 3 ∨ (5 < i ∧ i ≠ 41 ∧ i ≠ 94)) : backS S k i = S i := by
  unfold backS
  try dsimp only
  rw [up2_ne _ _ _ (by omega), up2_ne _ _ _ (by omega), cop_o (by omega) (by omega) (by omega)]
theorem R.bak {T U : Sto} {pp sp hh ww nl nc nf u e nb n k : Nat} (h : R T U pp sp hh ww nl nc nf u e nb n) (hk : k < 2) (hz : ¬ U 133 k = 0) : R (backS T k) (mbkS U k) pp sp hh ww nl nc nf 0 e nb n := by
  obtain ⟨a, b, c, d, f, ⟨a1, a2, a3, a4, a5, a6⟩, i, j, x⟩ := h
  have := a.pl
  have hn := b.n25
  have hl := b.2.2.2.1.2.2.1
  obtain ⟨_, i2⟩ := i k hk
  obtain ⟨i3, s, hs, e1, e2⟩ := i2 hz
  have hT : ∀ i, i < 3 ∨ (5 < i ∧ i ≠ 41 ∧ i ≠ 94) → backS T k i = T i := fun i h => bak_o h
  have hU : ∀ i, i ≠ 114 → i ≠ 119 → mbkS U k i = U i := fun i h1 h2 => by unfold mbkS; rw [up2_ne _ _ _ h1, up2_ne _ _ _ h1, upA_ne _ _ h2]
  have hU1 : ∀ j, j ≠ 32 → j ≠ 11 → mbkS U k 114 j = U 114 j := fun j h1 h2 => by unfold mbkS; rw [up2_same, pk_un h1, up2_same, pk_un h2, upA_ne _ _ (by omega)]
  refine ⟨a.c (hT 0 (by omega)), (b.cT (hT _ (by omega)) (hT _ (by omega)) (hT _ (by omega)) (hT _ (by omega))).cU (fun k _ => hU1 k (by omega) (by omega)) (hU _ (by omega) (by omega)) (hU _ (by omega) (by omega)) (hU _ (by omega) (by omega)), ?_, ⟨d.1.c (hT _ (by omega)), d.2.c (hT _ (by omega))⟩, ?_, ?_, i.c (fun i _ h => hT i (by omega)) (hU _ (by omega) (by omega)) (hU _ (by omega) (by omega)), j.c (fun i _ h => hT i (by omega)) (hU1 _ (by omega) (by omega)) (hU _ (by omega) (by omega)) (hU _ (by omega) (by omega)), x.c (hT _ (by omega)) (hT _ (by omega)) (hU1 _ (by omega) (by omega)) (hU1 _ (by omega) (by omega)) (hU _ (by omega) (by omega))⟩
  · have tc : ∀ i, 3 ≤ i → i ≤ 5 → backS T k i = copS T 3 (106 + 4 * k + 1) i := fun i h1 h2 => by
      unfold backS
      try dsimp only
      rw [up2_ne _ _ _ (by omega), up2_ne _ _ _ (by omega)]
    refine ((i3.cop (dd := 3) (by omega) hn hl).cT (tc _ (by omega) (by omega)) (tc _ (by omega) (by omega)) (tc _ (by omega) (by omega))).cF hn hl (fun j hj => ?_)
    unfold mbkS
    rw [up2_ne _ _ _ (by omega), up2_ne _ _ _ (by omega), upA_same]
    exact if_pos hj
  · refine ⟨s, hs, ?_, ?_⟩
    · unfold backS
      try dsimp only
      rw [up2_ne _ _ _ (by omega), up2_same, pk_us, cop_o (by omega) (by omega) (by omega), e1]
    · unfold mbkS
      rw [up2_same, pk_un (by omega), up2_same, pk_us, e2]
  · refine ⟨?_, ?_, by omega, ?_, a5, fun k hk => by omega⟩
    · unfold backS
      try dsimp only
      rw [up2_same, pk_us]
    · unfold mbkS
      rw [up2_same, pk_us]
    · unfold backS
      try dsimp only
      rw [up2_same, pk_un (by omega), up2_ne _ _ _ (by omega), cop_o (by omega) (by omega) (by omega)]
      exact a4
theorem m_keep (x : Int32) : Both2 yX10_keep cX10_keep 3 yX11_keep cX11_keep 3 [.int x] := by
  intro l C S hC hR
  obtain ⟨pp, sp, hh, ww, nl, nc, nf, u, e, nb, n, h⟩ := id hR
  have c1 := c_X10_keep l C hC S x
  have q := out_in (v := x) (a := 0) (b := 1) (A := lN 0) (B := lN 1) (by decide) (by decide) rfl rfl
  by_cases c : outP x (nI 0) (nI 1)
  · have c2 := c_X11_keep l C hC S x
    rw [if_pos c, if_pos c] at c1
    rw [if_pos (q.mp c), if_pos (q.mp c)] at c2
    exact both_ask hR c1 c2 rfl (by decide) (by decide)
  · have c' := fun z => c (q.mpr z)
    rw [if_neg c, if_neg c] at c1
    obtain ⟨k, _, hk, rfl⟩ := out_n (by decide) c (by decide)
    rw [nI_clamp (by omega)] at c1
    have fr : ∀ i, 114 ≤ i → keepS S k i = S i := fun i hi => kep_o (by omega) (by omega) (by omega)
    have h1 := h.cU fr
    have c2 := c_X11_keep l C hC (keepS S k) (nI k)
    rw [if_neg c', if_neg c', nI_clamp (by omega)] at c2
    exact both_do c1 c2 ⟨rfl, (h1.kep (by omega)).rr⟩ (fun i hi => by unfold mkpS; rw [up2_ne _ _ _ (by omega), up2_ne _ _ _ (by omega), up2_ne _ _ _ (by omega), upA_ne _ _ (by omega)]) (by decide) (by decide)
theorem m_goBack (x : Int32) : Both2 yX10_goBack cX10_goBack 3 yX11_goBack cX11_goBack 3 [.int x] := by
  intro l C S hC hR
  obtain ⟨pp, sp, hh, ww, nl, nc, nf, u, e, nb, n, h⟩ := id hR
  have c1 := c_X10_goBack l C hC S x
  have q := out_in (v := x) (a := 0) (b := 1) (A := lN 0) (B := lN 1) (by decide) (by decide) rfl rfl
  by_cases c : outP x (nI 0) (nI 1)
  · have c2 := c_X11_goBack l C hC S x
    rw [if_pos c, if_pos c] at c1
    rw [if_pos (q.mp c), if_pos (q.mp c)] at c2
    exact both_ask hR c1 c2 rfl (by decide) (by decide)
  · have c' := fun z => c (q.mpr z)
    rw [if_neg c, if_neg c] at c1
    obtain ⟨k, _, hk, rfl⟩ := out_n (by decide) c (by decide)
    have e0 := (h.2.2.2.2.2.2.1 k (by omega)).1
    rw [nI_clamp (by omega), e0] at c1
    by_cases z : S 133 k = 0
    · have c2 := c_X11_goBack l C hC S (nI k)
      rw [if_pos z, if_pos z] at c1
      rw [if_neg c', if_neg c', nI_clamp (by omega), if_pos z, if_pos z] at c2
      exact both_ask hR c1 c2 rfl (by decide) (by decide)
    · rw [if_neg z, if_neg z] at c1
      have fr : ∀ i, 114 ≤ i → backS S k i = S i := fun i hi => bak_o (by omega)
      have h1 := h.cU fr
      have c2 := c_X11_goBack l C hC (backS S k) (nI k)
      rw [if_neg c', if_neg c', nI_clamp (by omega), fr 133 (by omega), if_neg z, if_neg z] at c2
      exact both_do c1 c2 ⟨rfl, (h1.bak (by omega) (by rw [fr 133 (by omega)]; exact z)).rr⟩ (fun i hi => by unfold mbkS; rw [up2_ne _ _ _ (by omega), up2_ne _ _ _ (by omega), upA_ne _ _ (by omega)]) (by decide) (by decide)
/-! the text -/
def qOf (S : Sto) : Qr := ((S 1 2).toBitVec.toNat, S 1 3, (S 1 4).toBitVec.toNat, (S 1 5).toBitVec.toNat, S 1 6)
theorem nI_self (x : Int32) : nI x.toBitVec.toNat = x := u_inj (by rw [nI_toNat, Nat.mod_eq_of_lt x.toBitVec.isLt])
theorem RS_self {S : Sto} {n : Nat} (h : S 1 1 = nI n) : RS S n (qOf S) = S := by
  unfold RS
  have : qrow (S 1) n (qOf S) = S 1 := by
    funext k
    unfold qrow qOf
    try dsimp only
    rw [nI_self, nI_self, nI_self]
    split
    · rename_i e; rw [e, h]
    · split
      · rename_i e; rw [e]
      · split
        · rename_i e; rw [e]
        · split
          · rename_i e; rw [e]
          · split
            · rename_i e; rw [e]
            · split
              · rename_i e; rw [e]
              · rfl
  rw [this, upA_self]
theorem R_text {T T' U U' : Sto} {pp sp hh ww nl nc nf u e nb n n' : Nat} (h : R T U pp sp hh ww nl nc nf u e nb n) (hT : ∀ i, i ≠ 1 → i ≠ 2 → T' i = T i) (hU1 : ∀ k, (k < 13 ∨ 28 < k) → U' 114 k = U 114 k) (hU : ∀ i, 114 < i → (i < 120 ∨ 124 < i) → U' i = U i) (hB : TXR T' U' n') : R T' U' pp sp hh ww nl nc nf u e nb n' := by
  obtain ⟨a, b, c, d, f, g, i, j, k⟩ := h
  have := a.pl
  exact ⟨a.c (hT 0 (by omega) (by omega)), (b.cT (hT _ (by omega) (by omega)) (hT _ (by omega) (by omega)) (hT _ (by omega) (by omega)) (hT _ (by omega) (by omega))).cU (fun k _ => hU1 k (by omega)) (hU _ (by omega) (by omega)) (hU _ (by omega) (by omega)) (hU _ (by omega) (by omega)), by rw [hU 119 (by omega) (by omega)]; exact c.cT (hT _ (by omega) (by omega)) (hT _ (by omega) (by omega)) (hT _ (by omega) (by omega)), ⟨d.1.c (hT _ (by omega) (by omega)), d.2.c (hT _ (by omega) (by omega))⟩, f.c (by rw [hT _ (by omega) (by omega)]) (hU1 _ (by omega)), g.c (fun i _ h => hT i (by omega) (by omega)) (hU1 _ (by omega)) (hU _ (by omega) (by omega)), i.c (fun i _ h => hT i (by omega) (by omega)) (hU _ (by omega) (by omega)) (hU _ (by omega) (by omega)), j.c (fun i _ h => hT i (by omega) (by omega)) (hU1 _ (by omega)) (hU _ (by omega) (by omega)) (hU _ (by omega) (by omega)), hB⟩
theorem m_feed (x : Int32) : Both2 yX10_feed cX10_feed 2 yX11_feed cX11_feed 2 [.int x] := by
  intro l C S hC hR
  obtain ⟨pp, sp, hh, ww, nl, nc, nf, u, e, nb, n, h⟩ := id hR
  obtain ⟨t1, t2, t3, t4, t6, t5⟩ := h.2.2.2.2.2.2.2.2
  have c1 := c_X10_feed l C hC S n t3 (qOf S) x
  rw [RS_self t1] at c1
  have q := out_in (v := x) (a := 0) (b := 255) (A := lN 0) (B := 255) (by decide) (by decide) rfl rfl
  by_cases c : outP x (nI 0) (nI 255)
  · have c2 := c_X11_feed l C hC S n t2 t3 x
    rw [if_pos c, if_pos c] at c1
    rw [if_pos (q.mp c), if_pos (q.mp c)] at c2
    exact both_ask hR c1 c2 rfl (by decide) (by decide)
  · have c' := fun z => c (q.mpr z)
    rw [if_neg c, if_neg c] at c1
    by_cases f : n = 240
    · have c2 := c_X11_feed l C hC S n t2 t3 x
      rw [if_neg (by omega), if_neg (by omega)] at c1
      rw [if_neg c', if_neg c', if_pos f, if_pos f] at c2
      exact both_ask hR c1 c2 rfl (by decide) (by decide)
    · rw [if_pos (by omega), if_pos (by omega)] at c1
      obtain ⟨k, _, hk, rfl⟩ := out_n (by decide) c (by decide)
      generalize hs1 : RS (up2 S 2 n (nI k)) (n + 1) (qOf S) = S1 at c1
      have fr : ∀ i, i ≠ 1 → i ≠ 2 → S1 i = S i := fun i h1 h2 => by rw [← hs1, RS_o h1, up2_ne _ _ _ h2]
      have h1 := h.cU (fun i hi => fr i (by omega) (by omega))
      have c2 := c_X11_feed l C hC S1 n h1.2.2.2.2.2.2.2.2.2.1 t3 (nI k)
      rw [if_neg c', if_neg c', if_neg f, if_neg f] at c2
      have h2 : R S1 (up2 (up2 S1 120 n (nI k)) 114 13 (nI (n + 1))) pp sp hh ww nl nc nf u e nb (n + 1) := by
        refine R_text h1 fr (fun k hk => by rw [up2_same, pk_un (by omega), up2_ne _ _ _ (by omega)]) (fun i q1 q2 => by rw [up2_ne _ _ _ (by omega), up2_ne _ _ _ (by omega)]) ⟨by rw [← hs1, RS_1], by rw [up2_same, pk_us], by omega, ?_, ?_, fun i hi => ?_⟩
        · rw [up2_same, pk_un (by omega), up2_ne _ _ _ (by omega), fr 114 (by omega) (by omega), ← t4, ← hs1, RS_3]
          rfl
        · rw [up2_ne _ _ _ (show 120 ≠ 114 by omega), up2_same, fr 120 (by omega) (by omega), ← hs1, RS_o (by omega), up2_same, t6]
        · rw [up2_ne _ _ _ (show 120 ≠ 114 by omega), up2_same, fr 120 (by omega) (by omega)]
          by_cases kk : i = n
          · subst kk
            rw [pk_us]
            exact ⟨k, hk, rfl⟩
          · rw [pk_un kk]
            exact t5 i (by omega)
      exact both_do c1 c2 ⟨rfl, h2.rr⟩ (fun i hi => by rw [up2_ne _ _ _ (by omega), up2_ne _ _ _ (by omega)]) (by decide) (by decide)
