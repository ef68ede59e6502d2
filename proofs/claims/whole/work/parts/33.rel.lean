/-! plan and state of the class beside the model's -/
def PLR (T : Sto) (pp : Nat) (U : Sto) (hh ww nl nc nf : Nat) : Prop :=
  (T pp 4 = nI hh ∧ T pp 5 = nI ww ∧ T pp 6 = fcF (nI ww) hh ∧ T pp 8 = nI nl ∧ T pp 9 = nI nc ∧ T pp 10 = nI nf ∧ T pp 11 = allF (nI hh) (nI ww)) ∧
  (U 114 0 = nI hh ∧ U 114 1 = nI ww ∧ U 114 2 = nI nl ∧ U 114 4 = nI nc ∧ U 114 7 = nI nf) ∧
  ((hh = 0 ∧ ww = 0 ∧ nl = 0 ∧ nc = 0 ∧ nf = 0) ∨ (2 ≤ hh ∧ 2 ≤ ww)) ∧ (hh ≤ 5 ∧ ww ≤ 5 ∧ nl ≤ 4 ∧ nc ≤ 6 ∧ nf ≤ 5) ∧
  (∀ c, c < nc → ∃ a b, a < hh * ww ∧ b < hh * ww ∧ a ≠ b ∧ T (pp + 2) c = nI a ∧ T (pp + 3) c = nI b ∧ U 116 c = nI a ∧ U 117 c = nI b) ∧
  (∀ f, f < nf → T (pp + 4) f = U 118 f ∧ ∀ k, hh * ww ≤ k → bt (U 118 f) k = false)
def DM (T : Sto) (dd : Nat) (f : Nat → Int32) (nn nl : Nat) : Prop :=
  (∀ x, x < nn → T (dd + 1) x = f x ∧ ∃ v, v ≤ 9 ∧ f x = nI v) ∧ (∀ x, nn ≤ x → x < 25 → T (dd + 1) x = nI 0) ∧
  (∀ l, l < nl → T (dd + 2) l = f (25 + l) ∧ ∃ a, a < nn ∧ f (25 + l) = nI a) ∧
  (T dd 2 = f 29 ∧ T dd 3 = f 30 ∧ T dd 4 = f 31 ∧ T dd 5 = f 32 ∧ T dd 6 = f 33)
def CZ (T : Sto) (ff : Nat) : Prop := ∀ k, k < 25 → T (ff + 2) k = nI 0
theorem PLR.n25 {T U : Sto} {pp hh ww nl nc nf : Nat} (h : PLR T pp U hh ww nl nc nf) : hh * ww ≤ 25 := (Nat.mul_le_mul h.2.2.2.1.1 h.2.2.2.1.2.1 : hh * ww ≤ 5 * 5)
theorem PLR.cells {T U : Sto} {pp hh ww nl nc nf : Nat} (h : PLR T pp U hh ww nl nc nf) : plCells T pp = nI (hh * ww) := by unfold plCells; rw [h.1.1, h.1.2.1, pk_mul]
theorem PLR.all {T U : Sto} {pp hh ww nl nc nf : Nat} (h : PLR T pp U hh ww nl nc nf) : plAll T pp = (nI 1 <<< (nI (hh * ww) &&& 31)) - nI 1 := by
  have e : T pp 11 = allF (nI hh) (nI ww) := h.1.2.2.2.2.2.2
  show T pp 11 = _
  rw [e, allF, pk_mul]
theorem PLR.mc {T U : Sto} {pp hh ww nl nc nf : Nat} (h : PLR T pp U hh ww nl nc nf) : mcl U = nI (hh * ww) := by unfold mcl; rw [h.2.1.1, h.2.1.2.1, pk_mul]
theorem PLR.cT {T T' U : Sto} {pp hh ww nl nc nf : Nat} (h : PLR T pp U hh ww nl nc nf) (e0 : T' pp = T pp) (e2 : T' (pp + 2) = T (pp + 2)) (e3 : T' (pp + 3) = T (pp + 3)) (e4 : T' (pp + 4) = T (pp + 4)) : PLR T' pp U hh ww nl nc nf := by
  unfold PLR
  rw [e0, e2, e3, e4]
  exact h
theorem PLR.cU {T U U' : Sto} {pp hh ww nl nc nf : Nat} (h : PLR T pp U hh ww nl nc nf) (e0 : ∀ k, k < 8 → U' 114 k = U 114 k) (e2 : U' 116 = U 116) (e3 : U' 117 = U 117) (e4 : U' 118 = U 118) : PLR T pp U' hh ww nl nc nf := by
  unfold PLR
  rw [e0 0 (by omega), e0 1 (by omega), e0 2 (by omega), e0 4 (by omega), e0 7 (by omega), e2, e3, e4]
  exact h
theorem DM.cT {T T' : Sto} {dd nn nl : Nat} {f : Nat → Int32} (h : DM T dd f nn nl) (e0 : T' dd = T dd) (e1 : T' (dd + 1) = T (dd + 1)) (e2 : T' (dd + 2) = T (dd + 2)) : DM T' dd f nn nl := by
  unfold DM
  rw [e0, e1, e2]
  exact h
theorem DM.cF {T : Sto} {dd nn nl : Nat} {f g : Nat → Int32} (h : DM T dd f nn nl) (hn : nn ≤ 25) (hl : nl ≤ 4) (e : ∀ k, k < 34 → g k = f k) : DM T dd g nn nl := by
  refine ⟨fun x hx => ?_, h.2.1, fun l hl' => ?_, ?_⟩
  · rw [e x (by omega)]; exact h.1 x hx
  · rw [e (25 + l) (by omega)]; exact h.2.2.1 l hl'
  · rw [e 29 (by omega), e 30 (by omega), e 31 (by omega), e 32 (by omega), e 33 (by omega)]; exact h.2.2.2
theorem bound_b (z : Int32) : ∃ v, v ≤ 9 ∧ boundF z = nI v := by
  unfold boundF
  by_cases h : z ≤ nI 9
  · rw [if_pos h]
    by_cases h2 : 0 ≤ z
    · rw [if_pos h2]
      have h3 : ¬ z < 0 := le_nlt.mpr h2
      exact nI_of2 (n := 9) rfl h3 h
    · rw [if_neg h2]
      exact ⟨0, by omega, rfl⟩
  · rw [if_neg h]
    exact ⟨9, by omega, rfl⟩
theorem bd_9 {v r : Nat} (hv : v ≤ 9) (hr : r ≤ 9) : minF (nI 9) (nI v + nI r) = boundF (nI v + nI r) := by
  have : ∀ v, v ≤ 9 → ∀ r, r ≤ 9 → minF (nI 9) (nI v + nI r) = boundF (nI v + nI r) := by decide
  exact this v hv r hr
theorem leaks_rel {f w lk : Nat → Int32} {nn nl rr : Nat} (hn : nn ≤ 25) (hl : nl ≤ 4) (hr : rr ≤ 9) (h1 : ∀ x, x < nn → w x = f x ∧ ∃ v, v ≤ 9 ∧ f x = nI v) (h2 : ∀ x, nn ≤ x → x < 25 → w x = nI 0) (h3 : ∀ l, l < nl → lk l = f (25 + l) ∧ ∃ a, a < nn ∧ f (25 + l) = nI a) : ∀ n, n ≤ nl →
    (∀ x, x < nn → lkF lk (nI rr) w n x = mlW f (nI rr) n x ∧ ∃ v, v ≤ 9 ∧ mlW f (nI rr) n x = nI v) ∧ (∀ x, nn ≤ x → x < 25 → lkF lk (nI rr) w n x = nI 0)
  | 0, _ => ⟨h1, h2⟩
  | n + 1, hn' => by
    obtain ⟨i1, i2⟩ := leaks_rel hn hl hr h1 h2 h3 n (by omega)
    obtain ⟨e, a, ha, ea⟩ := h3 n (by omega)
    unfold lkF mlW
    rw [pickN (show n < 4 by omega) (by decide), e, ea, putFN (show a < 25 by omega) (by decide), pickN (show a < 25 by omega) (by decide), nI_clamp (by omega)]
    obtain ⟨e1, v, hv, ev⟩ := i1 a ha
    rw [e1, ev, bd_9 hv hr]
    refine ⟨fun x hx => ?_, fun x hx hx2 => ?_⟩
    · by_cases c : x = a
      · subst c
        rw [pk_us, pk_us]
        exact ⟨rfl, bound_b _⟩
      · rw [pk_un c, pk_un c]
        exact i1 x hx
    · rw [pk_un (by omega)]
      exact i2 x hx hx2
theorem stF_1 (dr : Int32) (p : Pr2) : ∀ n, n ≤ 25 → ∀ j, (stF dr p n).1 j = (if j < n then maxF (nI 0) (minF (nI 9) (p.1 j + p.2 j) - dr) else p.1 j) ∧ (stF dr p n).2 j = (if j < n then nI 0 else p.2 j)
  | 0, _, j => by simp [stF]
  | n + 1, hn, j => by
    have ih := stF_1 dr p n (by omega)
    unfold stF
    dsimp only
    rw [putFN (by omega) (by decide), pickN (by omega) (by decide), (ih n).1, (ih n).2, if_neg (by omega), if_neg (by omega)]
    by_cases c : j = n
    · subst c
      rw [pk_us, pk_us, if_pos (by omega), if_pos (by omega)]
      exact ⟨rfl, rfl⟩
    · rw [pk_un c, pk_un c, (ih j).1, (ih j).2]
      by_cases c2 : j < n
      · rw [if_pos c2, if_pos c2, if_pos (by omega), if_pos (by omega)]
        exact ⟨rfl, rfl⟩
      · rw [if_neg c2, if_neg c2, if_neg (by omega), if_neg (by omega)]
        exact ⟨rfl, rfl⟩
theorem bd_big {z : Nat} (hz : z ≤ 100000) : ∃ y, y ≤ 9 ∧ minF (nI 9) (nI z) = nI y ∧ boundF (nI z) = nI y := by
  unfold minF boundF
  by_cases h : z ≤ 8
  · rw [if_pos (nI_lt (by omega) (by omega)), if_pos (nI_le (by omega) (by omega)), if_pos (nI_pos' (by omega))]
    exact ⟨z, by omega, rfl, rfl⟩
  · rw [if_neg (nI_nlt (by omega) (by omega))]
    by_cases h9 : z = 9
    · subst h9
      exact ⟨9, by omega, rfl, rfl⟩
    · rw [if_neg (nI_ge (by omega) (by omega))]
      exact ⟨9, by omega, rfl, rfl⟩
theorem mx_1 {y : Nat} (hy : y ≤ 9) : maxF (nI 0) (nI y - nI 1) = boundF (nI y - nI 1) ∧ maxF (nI 0) (nI y - nI 0) = nI y := by
  have : ∀ y, y ≤ 9 → (maxF (nI 0) (nI y - nI 1) = boundF (nI y - nI 1) ∧ maxF (nI 0) (nI y - nI 0) = nI y) := by decide
  exact this y hy
theorem settle_eq {v c : Nat} (hv : v ≤ 9) (hc : c ≤ 10000) (r : Int32) : maxF (nI 0) (minF (nI 9) (nI v + nI c) - (if r = 0 then nI 1 else nI 0)) = mstl r (nI v) (nI c) := by
  unfold mstl
  rw [nI_add]
  obtain ⟨y, hy, e1, e2⟩ := bd_big (z := v + c) (by omega)
  rw [e1, e2]
  by_cases h : r = 0
  · rw [if_pos h, if_pos h, (mx_1 hy).1]
  · rw [if_neg h, if_neg h, (mx_1 hy).2]
theorem mstl_b (r l c : Int32) : ∃ v, v ≤ 9 ∧ mstl r l c = nI v := by
  unfold mstl
  split
  · exact bound_b _
  · exact bound_b _
/-- what a day of the class leaves in its cells -/
theorem rain_at {S : Sto} {pp dd ff nl nc : Nat} {r : Int32} (hdf : ff + 2 < dd ∨ dd + 2 ≤ ff) (hpd : dd + 2 < pp) (hpf : ff + 2 < pp) :
    let w := lkF (S (dd + 2)) r (S (dd + 1)) nl
    let ah := cpN 25 w (S (ff + 1))
    let g := rcF S pp (S dd 3) ah (rdF S pp (S dd 2) ah (w, S (ff + 2)) 25) nc
    rainS S pp dd ff nl nc r (dd + 1) = (stF (if r = 0 then nI 1 else nI 0) g 25).1 ∧ rainS S pp dd ff nl nc r (ff + 2) = (stF (if r = 0 then nI 1 else nI 0) g 25).2 ∧ rainS S pp dd ff nl nc r (dd + 2) = S (dd + 2) ∧ rainS S pp dd ff nl nc r dd = upd (S dd) 4 (S dd 4 + nI 1) := by
  intro w ah g
  unfold rainS rainT
  have a1 : upA S (dd + 1) w (dd + 1) = w := upA_same _ _ _
  have a2 : upA S (dd + 1) w (ff + 1) = S (ff + 1) := upA_ne _ _ (by omega)
  rw [show lkF (S (dd + 2)) r (S (dd + 1)) nl = w from rfl, a1, a2]
  generalize hS1 : upA (upA S (dd + 1) w) (ff + 1) (cpN 25 w (S (ff + 1))) = S1
  have b0 : ∀ i, i ≠ dd + 1 → i ≠ ff + 1 → S1 i = S i := fun i h1 h2 => by rw [← hS1, upA_ne _ _ h2, upA_ne _ _ h1]
  have b1 : S1 (dd + 1) = w := by rw [← hS1, upA_ne _ _ (by omega), upA_same]
  have b2 : S1 (ff + 1) = ah := by rw [← hS1, upA_same]
  rw [b1, b2, b0 dd (by omega) (by omega), b0 (ff + 2) (by omega) (by omega), rdF_c (S := S) (b0 pp (by omega) (by omega))]
  generalize hp1 : rdF S pp (S dd 2) ah (w, S (ff + 2)) 25 = p1
  rw [st2_w (by omega), st2_c, st2_o (i := dd) (by omega) (by omega), st2_o (i := ff + 1) (by omega) (by omega), b2, b0 dd (by omega) (by omega)]
  rw [rcF_c (S := S) (by rw [st2_o (by omega) (by omega), b0 _ (by omega) (by omega)]) (by rw [st2_o (by omega) (by omega), b0 _ (by omega) (by omega)])]
  have hg : rcF S pp (S dd 3) ah (p1.1, p1.2) nc = g := by
    show rcF S pp (S dd 3) ah p1 nc = _
    rw [← hp1]
  rw [hg, st2_w (by omega), st2_c]
  refine ⟨?_, ?_, ?_, ?_⟩
  · rw [up2_ne _ _ _ (by omega), st2_w (by omega)]
  · rw [up2_ne _ _ _ (by omega), st2_c]
  · rw [up2_ne _ _ _ (by omega), st2_o (by omega) (by omega), st2_o (by omega) (by omega), st2_o (by omega) (by omega), b0 _ (by omega) (by omega)]
  · rw [up2_same, st2_o (by omega) (by omega), st2_o (by omega) (by omega), st2_o (by omega) (by omega), b0 _ (by omega) (by omega)]
/-- what a day of the model leaves -/
theorem pass_at {S : Sto} {nn ww nl nc : Nat} {r : Int32} (hn : nn ≤ 25) :
    let f := mlW (S 119) r nl
    let B := mcp (passA S nl r) nn
    let g := mrN B nn ww nc (B 127, B 126) nn
    (∀ k, k < nn → passS S nn ww nl nc r 119 k = mstl r (g.1 k) (g.2 k)) ∧ passS S nn ww nl nc r 119 31 = f 31 + nI 1 ∧ (∀ k, nn ≤ k → k ≠ 31 → passS S nn ww nl nc r 119 k = f k) ∧ (∀ k, k < nn → B 125 k = f k ∧ B 127 k = f k ∧ B 126 k = nI 0) ∧ B 119 = f ∧ B 116 = S 116 ∧ B 117 = S 117 := by
  intro f B g
  have hB : B 119 = f := by
    show mcp (passA S nl r) nn 119 = _
    rw [mcp_o (by decide) (by decide) (by decide)]
    exact upA_same _ _ _
  have hD : passD S nn ww nl nc r = mst B g := rfl
  unfold passS
  rw [hD]
  have e1 : mst B g 127 = g.1 := mst_l
  have e2 : mst B g 126 = g.2 := mst_c
  have e3 : mst B g 119 = f := by rw [mst_o (by decide) (by decide), hB]
  refine ⟨fun k hk => ?_, ?_, fun k hk hk2 => ?_, fun k hk => ?_, hB, ?_, ?_⟩
  · rw [up2_same, pk_un (by omega), upA_same]
    unfold msW cpN
    rw [if_pos hk, e1, e2]
  · rw [up2_same, pk_us, upA_same]
    unfold msW cpN
    rw [if_neg (by omega), e3]
  · rw [up2_same, pk_un hk2, upA_same]
    unfold msW cpN
    rw [if_neg (by omega), e3]
  · have q : passA S nl r 119 = f := upA_same _ _ _
    refine ⟨?_, ?_, ?_⟩
    · show cpN nn (passA S nl r 119) _ k = _
      rw [q]; exact if_pos hk
    · show cpN nn (passA S nl r 119) _ k = _
      rw [q]; exact if_pos hk
    · exact if_pos hk
  · show mcp (passA S nl r) nn 116 = _
    rw [mcp_o (by decide) (by decide) (by decide)]
    exact passA_o (by decide)
  · show mcp (passA S nl r) nn 117 = _
    rw [mcp_o (by decide) (by decide) (by decide)]
    exact passA_o (by decide)
/-- a day keeps the two alike -/
theorem day_rel {T U : Sto} {pp dd ff hh ww nl nc nf rr : Nat} (hdf : ff + 2 < dd ∨ dd + 2 ≤ ff) (hpd : dd + 2 < pp) (hpf : ff + 2 < pp) (hP : PLR T pp U hh ww nl nc nf) (h0 : 0 < hh) (hD : DM T dd (U 119) (hh * ww) nl) (hz : CZ T ff) (hr : rr ≤ 9) :
    DM (rainS T pp dd ff nl nc (nI rr)) dd (passS U (hh * ww) ww nl nc (nI rr) 119) (hh * ww) nl ∧ CZ (rainS T pp dd ff nl nc (nI rr)) ff := by
  have hn := hP.n25
  obtain ⟨⟨t4, t5, t6, t8, t9, t10, t11⟩, ⟨u0, u1, u2, u4, u7⟩, hor, ⟨hh5, hw5, hl4, hc6, hf5⟩, hcr, hfa⟩ := id hP
  have hw : 0 < ww := by omega
  obtain ⟨r1, r2, r3, r4⟩ := rain_at (S := T) (pp := pp) (dd := dd) (ff := ff) (nl := nl) (nc := nc) (r := nI rr) hdf hpd hpf
  obtain ⟨m1, m2, m3, m4, m5, m6, m7⟩ := pass_at (S := U) (nn := hh * ww) (ww := ww) (nl := nl) (nc := nc) (r := nI rr) hn
  obtain ⟨d1, d2, d3, d4⟩ := id hD
  obtain ⟨l1, l2⟩ := leaks_rel (f := U 119) (w := T (dd + 1)) (lk := T (dd + 2)) hn hl4 hr d1 d2 d3 nl (Nat.le_refl _)
  have lhi : ∀ k, 25 ≤ k → mlW (U 119) (nI rr) nl k = U 119 k := fun k hk => mlW_hi hk nl (Nat.le_refl _) (fun c hc => by
    obtain ⟨_, a, ha, ea⟩ := d3 c hc
    exact ⟨a, by omega, ea⟩)
  generalize hw' : lkF (T (dd + 2)) (nI rr) (T (dd + 1)) nl = w at r1 r2 l1 l2
  generalize hf' : mlW (U 119) (nI rr) nl = f at m2 m3 m4 m5 l1 lhi
  generalize hB' : mcp (passA U nl (nI rr)) (hh * ww) = B at m1 m4 m5 m6 m7
  generalize hah : cpN 25 w (T (ff + 1)) = ah at r1 r2
  have a1 : ∀ x, x < 25 → ah x = w x := fun x hx => by rw [← hah]; exact if_pos hx
  let A : Nat → Nat := fun c => (U 116 c).toNatClampNeg
  let D : Nat → Nat := fun c => (U 117 c).toNatClampNeg
  have hAD : ∀ c, c < nc → A c < hh * ww ∧ D c < hh * ww ∧ A c ≠ D c ∧ T (pp + 2) c = nI (A c) ∧ T (pp + 3) c = nI (D c) ∧ B 116 c = nI (A c) ∧ B 117 c = nI (D c) := fun c hc => by
    obtain ⟨a, b, ha, hb, hab, e1, e2, e3, e4⟩ := hcr c hc
    have ea : A c = a := by show (U 116 c).toNatClampNeg = a; rw [e3, nI_clamp (by omega)]
    have eb : D c = b := by show (U 117 c).toNatClampNeg = b; rw [e4, nI_clamp (by omega)]
    rw [ea, eb, m6, m7]
    exact ⟨ha, hb, hab, e1, e2, e3, e4⟩
  have ah9 : ∀ x, x < hh * ww → ∃ v, v ≤ 9 ∧ ah x = nI v := fun x hx => by
    obtain ⟨e, v, hv, ev⟩ := l1 x hx
    exact ⟨v, hv, by rw [a1 x (by omega), e, ev]⟩
  have ahz : ∀ x, hh * ww ≤ x → x < 25 → ah x = nI 0 := fun x hx hx2 => by rw [a1 x hx2]; exact l2 x hx hx2
  have hah2 : ∀ x, x < hh * ww → B 125 x = ah x := fun x hx => by rw [(m4 x hx).1, a1 x (by omega), (l1 x hx).1]
  have e29 : B 119 29 = T dd 2 := by rw [m5, lhi 29 (by omega)]; exact d4.1.symm
  have e30 : B 119 30 = T dd 3 := by rw [m5, lhi 30 (by omega)]; exact d4.2.1.symm
  rw [rd_list hP.cells t5 hw hw5 rfl hn ahz _ 25 (Nat.le_refl _), rc_list (A := A) (B := D) (fun c hc => ⟨by have := (hAD c hc).1; omega, by have := (hAD c hc).2.1; omega, (hAD c hc).2.2.2.1, (hAD c hc).2.2.2.2.1⟩) hc6 _ nc (Nat.le_refl _), gives_same hn (fun c hc => ⟨(hAD c hc).1, (hAD c hc).2.1, (hAD c hc).2.2.1⟩) ah9 ahz] at r1 r2
  have em := mrN_list (S := B) (nc := nc) (A := A) (B := D) hw hw5 (hh := hh) rfl hn hah2 (fun c hc => ⟨(hAD c hc).1, (hAD c hc).2.1, (hAD c hc).2.2.2.2.2.1, (hAD c hc).2.2.2.2.2.2⟩) hc6 (B 127, B 126) (hh * ww) (Nat.le_refl _)
  rw [e29, e30] at em
  rw [em] at m1
  have hin := gl_in (wd := T dd 2) (fl := T dd 3) (ah := ah) (A := A) (B := D) (nc := nc) (hh := hh) (ww := ww) rfl (fun c hc => ⟨(hAD c hc).1, (hAD c hc).2.1⟩)
  have hlen := gl_len (ww := ww) (wd := T dd 2) (fl := T dd 3) (ah := ah) (A := A) (B := D) hn hc6
  generalize hL : (List.range (hh * ww)).flatMap (fun x => (dnL (hh * ww) ww ah x ++ wdL ww (T dd 2) ah x) ++ (List.range nc).flatMap (mcL A D (T dd 3) ah x)) = L at r1 r2 m1 hin hlen
  have hag := gfo_agree L (w, T (ff + 2)) (B 127, B 126) hin (fun k hk => ⟨by show w k = B 127 k; rw [(m4 k hk).2.1, (l1 k hk).1], by show T (ff + 2) k = B 126 k; rw [(m4 k hk).2.2, hz k (by omega)]⟩)
  have hou := gfo_out L (w, T (ff + 2)) hin
  have hbb := gfo_b L 0 (B 127, B 126) hin (fun k hk => ⟨by
    obtain ⟨_, v, hv, ev⟩ := l1 k hk
    exact ⟨v, hv, by show B 127 k = _; rw [(m4 k hk).2.1, ev]⟩, 0, Nat.le_refl _, (m4 k hk).2.2⟩)
  refine ⟨⟨fun x hx => ?_, fun x hx hx2 => ?_, fun l hl => ?_, ?_⟩, fun k hk => ?_⟩
  · obtain ⟨⟨v, hv, ev⟩, c, hc, ec⟩ := hbb x hx
    rw [r1, (stF_1 _ _ 25 (Nat.le_refl _) x).1, if_pos (by omega), (hag x hx).1, (hag x hx).2, m1 x hx]
    refine ⟨?_, mstl_b _ _ _⟩
    rw [ev, ec]
    exact settle_eq hv (by omega) _
  · rw [r1, (stF_1 _ _ 25 (Nat.le_refl _) x).1, if_pos hx2, (hou x hx).1, (hou x hx).2]
    show maxF (nI 0) (minF (nI 9) (w x + T (ff + 2) x) - _) = _
    rw [l2 x hx hx2, hz x hx2]
    split <;> decide
  · have hb : 25 + l ≠ 31 := by omega
    rw [r3, m3 (25 + l) (by omega) hb, lhi _ (by omega)]
    exact d3 l hl
  · rw [r4, m2, m3 29 (by omega) (by omega), m3 30 (by omega) (by omega), m3 32 (by omega) (by omega), m3 33 (by omega) (by omega), lhi 29 (by omega), lhi 30 (by omega), lhi 31 (by omega), lhi 32 (by omega), lhi 33 (by omega), pk_un (by omega), pk_un (by omega), pk_us, pk_un (by omega), pk_un (by omega), d4.2.2.1]
    exact ⟨d4.1, d4.2.1, rfl, d4.2.2.2.1, d4.2.2.2.2⟩
  · rw [r2, (stF_1 _ _ 25 (Nat.le_refl _) k).2, if_pos hk]
