/-! the plan as it is read, beside the model's -/
def RDR (T : Sto) (sp : Nat) (U : Sto) (wt : Int32) (hh ww kl kc kf : Nat) : Prop :=
  (T sp 4 = nI hh ∧ T sp 5 = nI ww ∧ T sp 6 = fcF (nI ww) hh ∧ T sp 7 = U 114 28 ∧ T sp 8 = nI kl ∧ T sp 9 = nI kc ∧ T sp 10 = nI kf ∧ T sp 11 = allF (nI hh) (nI ww)) ∧
  (U 114 18 = nI hh ∧ U 114 19 = nI ww ∧ U 114 20 = nI kl ∧ U 114 22 = nI kc ∧ U 114 25 = nI kf ∧ U 114 27 = wt ∧ (wt = nI 0 ∨ wt = nI 1)) ∧
  ((hh = 0 ∧ ww = 0 ∧ kl = 0 ∧ kc = 0 ∧ kf = 0) ∨ (2 ≤ hh ∧ 2 ≤ ww)) ∧ (hh ≤ 5 ∧ ww ≤ 5 ∧ kl ≤ 4 ∧ kc ≤ 6 ∧ kf ≤ 5) ∧
  (∀ l, l < kl → ∃ a, a < hh * ww ∧ T (sp + 1) l = nI a ∧ U 121 l = nI a) ∧
  (∀ c, c < kc → ∃ a b, a < hh * ww ∧ b < hh * ww ∧ a ≠ b ∧ T (sp + 2) c = nI a ∧ T (sp + 3) c = nI b ∧ U 122 c = nI a ∧ U 123 c = nI b) ∧
  (∀ f, f < kf → T (sp + 4) f = U 124 f ∧ sub (hh * ww) (U 124 f))
theorem RDR.cU {T U U' : Sto} {sp hh ww kl kc kf : Nat} {wt : Int32} (h : RDR T sp U wt hh ww kl kc kf) (e : ∀ k, 17 < k → U' 114 k = U 114 k) (e1 : ∀ i, 120 < i → i < 125 → U' i = U i) : RDR T sp U' wt hh ww kl kc kf := by
  unfold RDR
  rw [e 28 (by omega), e 18 (by omega), e 19 (by omega), e 20 (by omega), e 22 (by omega), e 25 (by omega), e 27 (by omega), e1 121 (by omega) (by omega), e1 122 (by omega) (by omega), e1 123 (by omega) (by omega), e1 124 (by omega) (by omega)]
  exact h
theorem RDR.n25 {T U : Sto} {sp hh ww kl kc kf : Nat} {wt : Int32} (h : RDR T sp U wt hh ww kl kc kf) : hh * ww ≤ 25 := (Nat.mul_le_mul h.2.2.2.1.1 h.2.2.2.1.2.1 : hh * ww ≤ 5 * 5)
theorem RDR.wi {T U : Sto} {sp hh ww kl kc kf n a : Nat} {wt : Int32} (h : RDR T sp U wt hh ww kl kc kf) (h13 : U 114 13 = nI n) (h15 : U 114 15 = nI a) (ha : a ≤ n) : WI U n a kl kc kf hh := by
  obtain ⟨-, ⟨u18, u19, u20, u22, u25, u27, uw⟩, hor, ⟨b1, b2, b3, b4, b5⟩, -⟩ := h
  refine ⟨h13, h15, ha, ⟨u20, b3⟩, ⟨u22, b4⟩, ⟨u25, b5⟩, ⟨u18, b1⟩, by rw [u27]; exact uw, fun z => ?_⟩
  rw [u18, nI_z (by omega)] at z
  rw [u19, nI_z (by omega)]
  omega
theorem nm_3 {t : Nat → Int32} {n a : Nat} {lo hi : Int32} (h : nmF t n a lo hi = 0) : nmV t n a < 1000 := by
  have n3 := (nmF_0.mp h).2.1
  have v3 : nmV t n a < 10 ^ (nmE t n a - skp t n a) := numV_b t _ _
  have v4 : 10 ^ (nmE t n a - skp t n a) ≤ 10 ^ 3 := Nat.pow_le_pow_right (by decide) n3
  omega
theorem nm_lt {t : Nat → Int32} {n a nn : Nat} (hn : 0 < nn) (h25 : nn ≤ 25) (h : nmF t n a (nI 0) (nI nn - nI 1) = 0) : nmV t n a < nn := by
  have o := (nmF_0.mp h).2.2.2
  have := nm_3 h
  rw [pk_sub (by omega)] at o
  have := (nI_leI (by omega) (by omega)).mp o
  omega
/-! each clause, taken -/
theorem rd_size {T S : Sto} {sp n a hh ww kl kc kf : Nat} {wt : Int32} (hn : n ≤ 240) (ha : a ≤ n) (h : RDR T sp S wt hh ww kl kc kf) (hz : hh = 0) (f : twF (S 120) n a = 0) : RDR (rszS T sp (nI (nmV (S 120) n a)) (nI (nmV (S 120) n (nmE (S 120) n a))) (nmV (S 120) n a)) sp (mtwS S n a) wt (nmV (S 120) n a) (nmV (S 120) n (nmE (S 120) n a)) 0 0 0 := by
  obtain ⟨f1, f2, m18, m19, m15, mk, mo⟩ := mtwS_0 hn ha f
  obtain ⟨⟨t4, t5, t6, t7, t8, t9, t10, t11⟩, ⟨u18, u19, u20, u22, u25, u27, uw⟩, hor, ⟨b1, b2, b3, b4, b5⟩, hl, hc, hf⟩ := h
  have v1 := nm25 f1
  have v2 := nm25 f2
  have z : kl = 0 ∧ kc = 0 ∧ kf = 0 := by omega
  obtain ⟨z1, z2, z3⟩ := z
  subst z1 z2 z3
  generalize nmV (S 120) n a = x at *
  generalize nmV (S 120) n (nmE (S 120) n a) = y at *
  have r : ∀ k, k ≠ 4 → k ≠ 5 → k ≠ 6 → k ≠ 11 → rszS T sp (nI x) (nI y) x sp k = T sp k := fun k h1 h2 h3 h4 => by unfold rszS; rw [up2_same, pk_un h3, up2_same, pk_un h4, up2_same, pk_un h2, up2_same, pk_un h1]
  refine ⟨⟨?_, ?_, ?_, ?_, ?_, ?_, ?_, ?_⟩, ⟨m18, m19, ?_, ?_, ?_, ?_, uw⟩, Or.inr ⟨v1.1, v2.1⟩, ⟨v1.2, v2.2, by omega, by omega, by omega⟩, fun l hl => by omega, fun c hc => by omega, fun f hf => by omega⟩
  · unfold rszS; rw [up2_same, pk_un (by omega), up2_same, pk_un (by omega), up2_same, pk_un (by omega), up2_same, pk_us]
  · unfold rszS; rw [up2_same, pk_un (by omega), up2_same, pk_un (by omega), up2_same, pk_us]
  · unfold rszS; rw [up2_same, pk_us]
  · rw [r 7 (by omega) (by omega) (by omega) (by omega), mk 28 (by omega)]; exact t7
  · rw [r 8 (by omega) (by omega) (by omega) (by omega)]; exact t8
  · rw [r 9 (by omega) (by omega) (by omega) (by omega)]; exact t9
  · rw [r 10 (by omega) (by omega) (by omega) (by omega)]; exact t10
  · unfold rszS; rw [up2_same, pk_un (by omega), up2_same, pk_us]
  · rw [mk 20 (by omega)]; exact u20
  · rw [mk 22 (by omega)]; exact u22
  · rw [mk 25 (by omega)]; exact u25
  · rw [mk 27 (by omega)]; exact u27
theorem rd_leak {T S : Sto} {sp n a hh ww kl kc kf : Nat} {wt : Int32} (hn : n ≤ 240) (ha : a ≤ n) (h : RDR T sp S wt hh ww kl kc kf) (h0 : ¬ hh = 0) (hk : kl < 4) (f : nmF (S 120) n a (nI 0) (mtlH S) = 0) : RDR (addLS T sp (nI (nmV (S 120) n a))) sp (mtlS S n a kl) wt hh ww (kl + 1) kc kf := by
  obtain ⟨m15, m20, mk, m121, mo⟩ := mtlS_0 (k := kl) hn ha f
  have h25 := h.n25
  obtain ⟨⟨t4, t5, t6, t7, t8, t9, t10, t11⟩, ⟨u18, u19, u20, u22, u25, u27, uw⟩, hor, ⟨b1, b2, b3, b4, b5⟩, hl, hc, hf⟩ := h
  have eH : mtlH S = nI (hh * ww) - nI 1 := by unfold mtlH; rw [u18, u19, pk_mul]
  rw [eH] at f
  have hnn : 0 < hh * ww := Nat.mul_pos (by omega) (by omega)
  have v := nm_lt hnn h25 f
  generalize nmV (S 120) n a = x at *
  have eA : addLS T sp (nI x) = up2 (up2 T (sp + 1) kl (nI x)) sp 8 (nI (kl + 1)) := by
    unfold addLS
    dsimp only
    rw [t8, putN hk (by decide), up2_ne T kl (nI x) (show sp ≠ sp + 1 by omega), t8, nI_add]
  rw [eA]
  have r : ∀ k, k ≠ 8 → up2 (up2 T (sp + 1) kl (nI x)) sp 8 (nI (kl + 1)) sp k = T sp k := fun k hk => by rw [up2_same, pk_un hk, up2_ne _ _ _ (by omega)]
  have r2 : ∀ i, i ≠ sp → i ≠ sp + 1 → up2 (up2 T (sp + 1) kl (nI x)) sp 8 (nI (kl + 1)) i = T i := fun i h1 h2 => by rw [up2_ne _ _ _ h1, up2_ne _ _ _ h2]
  refine ⟨⟨by rw [r 4 (by omega)]; exact t4, by rw [r 5 (by omega)]; exact t5, by rw [r 6 (by omega)]; exact t6, by rw [r 7 (by omega), mk 28 (by omega) (by omega)]; exact t7, by rw [up2_same, pk_us], by rw [r 9 (by omega)]; exact t9, by rw [r 10 (by omega)]; exact t10, by rw [r 11 (by omega)]; exact t11⟩, ⟨by rw [mk 18 (by omega) (by omega)]; exact u18, by rw [mk 19 (by omega) (by omega)]; exact u19, m20, by rw [mk 22 (by omega) (by omega)]; exact u22, by rw [mk 25 (by omega) (by omega)]; exact u25, by rw [mk 27 (by omega) (by omega)]; exact u27, uw⟩, Or.inr (by omega), ⟨b1, b2, by omega, b4, b5⟩, fun l hl' => ?_, fun c hc' => ?_, fun g hg => ?_⟩
  · rw [up2_ne _ _ _ (by omega), up2_same, m121]
    by_cases e : l = kl
    · subst e; rw [pk_us, pk_us]; exact ⟨x, v, rfl, rfl⟩
    · rw [pk_un e, pk_un e]; exact hl l (by omega)
  · rw [r2 _ (by omega) (by omega), r2 _ (by omega) (by omega), mo 122 (by omega) (by omega), mo 123 (by omega) (by omega)]; exact hc c hc'
  · rw [r2 _ (by omega) (by omega), mo 124 (by omega) (by omega)]; exact hf g hg
theorem rd_crack {T S : Sto} {sp n a hh ww kl kc kf : Nat} {wt : Int32} (hn : n ≤ 240) (ha : a ≤ n) (h : RDR T sp S wt hh ww kl kc kf) (h0 : ¬ hh = 0) (hk : kc < 6) (f : ckF S n a kc = 0) : RDR (addCS T sp (nI (nmV (S 120) n a)) (nI (nmV (S 120) n (nmE (S 120) n a)))) sp (mcS S n a kc) wt hh ww kl (kc + 1) kf := by
  obtain ⟨m15, m22, mk, m122, m123, mo⟩ := mcS_0 hn ha f
  obtain ⟨f1, f2, ok, -⟩ := ckF_0 f
  have h25 := h.n25
  obtain ⟨⟨t4, t5, t6, t7, t8, t9, t10, t11⟩, ⟨u18, u19, u20, u22, u25, u27, uw⟩, hor, ⟨b1, b2, b3, b4, b5⟩, hl, hc, hf⟩ := h
  have eH : mtlH S = nI (hh * ww) - nI 1 := by unfold mtlH; rw [u18, u19, pk_mul]
  rw [eH] at f1 f2
  have hnn : 0 < hh * ww := Nat.mul_pos (by omega) (by omega)
  have v := nm_lt hnn h25 f1
  have w := nm_lt hnn h25 f2
  rw [u19] at ok
  generalize nmV (S 120) n (nmE (S 120) n a) = y at *
  generalize nmV (S 120) n a = x at *
  have ne : x ≠ y := by
    have e := nx_nb ww b2 (by omega) x (by omega) y (by omega)
    rw [decide_eq_true ok] at e
    exact nb_ne (by omega) e.symm
  have eA : addCS T sp (nI x) (nI y) = up2 (up2 (up2 T (sp + 2) kc (nI x)) (sp + 3) kc (nI y)) sp 9 (nI (kc + 1)) := by
    unfold addCS
    dsimp only
    rw [t9, putN hk (by decide), up2_ne T kc (nI x) (show sp ≠ sp + 2 by omega), t9, putN hk (by decide), up2_ne (up2 T (sp + 2) kc (nI x)) kc (nI y) (show sp ≠ sp + 3 by omega), up2_ne T kc (nI x) (show sp ≠ sp + 2 by omega), t9, nI_add]
  rw [eA]
  have r : ∀ k, k ≠ 9 → up2 (up2 (up2 T (sp + 2) kc (nI x)) (sp + 3) kc (nI y)) sp 9 (nI (kc + 1)) sp k = T sp k := fun k hk => by rw [up2_same, pk_un hk, up2_ne _ _ _ (by omega), up2_ne _ _ _ (by omega)]
  have r2 : ∀ i, i ≠ sp → i ≠ sp + 2 → i ≠ sp + 3 → up2 (up2 (up2 T (sp + 2) kc (nI x)) (sp + 3) kc (nI y)) sp 9 (nI (kc + 1)) i = T i := fun i h1 h2 h3 => by rw [up2_ne _ _ _ h1, up2_ne _ _ _ h3, up2_ne _ _ _ h2]
  refine ⟨⟨by rw [r 4 (by omega)]; exact t4, by rw [r 5 (by omega)]; exact t5, by rw [r 6 (by omega)]; exact t6, by rw [r 7 (by omega), mk 28 (by omega) (by omega)]; exact t7, by rw [r 8 (by omega)]; exact t8, by rw [up2_same, pk_us], by rw [r 10 (by omega)]; exact t10, by rw [r 11 (by omega)]; exact t11⟩, ⟨by rw [mk 18 (by omega) (by omega)]; exact u18, by rw [mk 19 (by omega) (by omega)]; exact u19, by rw [mk 20 (by omega) (by omega)]; exact u20, m22, by rw [mk 25 (by omega) (by omega)]; exact u25, by rw [mk 27 (by omega) (by omega)]; exact u27, uw⟩, Or.inr (by omega), ⟨b1, b2, b3, by omega, b5⟩, fun l hl' => ?_, fun c hc' => ?_, fun g hg => ?_⟩
  · rw [r2 _ (by omega) (by omega) (by omega), mo 121 (by omega) (by omega) (by omega)]; exact hl l hl'
  · have e2 : up2 (up2 (up2 T (sp + 2) kc (nI x)) (sp + 3) kc (nI y)) sp 9 (nI (kc + 1)) (sp + 2) = upd (T (sp + 2)) kc (nI x) := by rw [up2_ne _ _ _ (by omega), up2_ne _ _ _ (by omega), up2_same]
    have e3 : up2 (up2 (up2 T (sp + 2) kc (nI x)) (sp + 3) kc (nI y)) sp 9 (nI (kc + 1)) (sp + 3) = upd (T (sp + 3)) kc (nI y) := by rw [up2_ne _ _ _ (by omega), up2_same, up2_ne _ _ _ (by omega)]
    rw [e2, e3, m122, m123]
    by_cases e : c = kc
    · subst e; rw [pk_us, pk_us, pk_us, pk_us]; exact ⟨x, y, v, w, ne, rfl, rfl, rfl, rfl⟩
    · rw [pk_un e, pk_un e, pk_un e, pk_un e]; exact hc c (by omega)
  · rw [r2 _ (by omega) (by omega) (by omega), mo 124 (by omega) (by omega) (by omega)]; exact hf g hg
theorem rd_wind {T S : Sto} {sp n a hh ww kl kc kf : Nat} {wt : Int32} (hn : n ≤ 240) (ha : a ≤ n) (h : RDR T sp S wt hh ww kl kc kf) (f : nmF (S 120) n a (nI 0) (nI 2) = 0) : RDR (up2 T sp 7 (nI (nmV (S 120) n a))) sp (mtdS S n a) (nI 1) hh ww kl kc kf := by
  obtain ⟨m15, m27, m28, mk, mo⟩ := mtdS_0 hn ha f
  obtain ⟨⟨t4, t5, t6, t7, t8, t9, t10, t11⟩, ⟨u18, u19, u20, u22, u25, u27, uw⟩, hor, hb, hl, hc, hf⟩ := h
  have r : ∀ k, k ≠ 7 → up2 T sp 7 (nI (nmV (S 120) n a)) sp k = T sp k := fun k hk => by rw [up2_same, pk_un hk]
  have r2 : ∀ i, i ≠ sp → up2 T sp 7 (nI (nmV (S 120) n a)) i = T i := fun i h1 => by rw [up2_ne _ _ _ h1]
  unfold RDR
  rw [r 4 (by omega), r 5 (by omega), r 6 (by omega), r 8 (by omega), r 9 (by omega), r 10 (by omega), r 11 (by omega), up2_same, pk_us, m28, m27, mk 18 (by omega) (by omega) (by omega), mk 19 (by omega) (by omega) (by omega), mk 20 (by omega) (by omega) (by omega), mk 22 (by omega) (by omega) (by omega), mk 25 (by omega) (by omega) (by omega), mo 121 (by omega), mo 122 (by omega), mo 123 (by omega), mo 124 (by omega), r2 _ (show sp + 1 ≠ sp by omega), r2 _ (show sp + 2 ≠ sp by omega), r2 _ (show sp + 3 ≠ sp by omega), r2 _ (show sp + 4 ≠ sp by omega)]
  exact ⟨⟨t4, t5, t6, rfl, t8, t9, t10, t11⟩, ⟨u18, u19, u20, u22, u25, rfl, Or.inr rfl⟩, hor, hb, hl, hc, hf⟩
theorem rd_like {T S : Sto} {sp n a hh ww kl kc kf : Nat} {wt : Int32} (hn : n ≤ 240) (h15 : S 114 15 = nI a) (ha : a ≤ n) (h : RDR T sp S wt hh ww kl kc kf) (h0 : ¬ hh = 0) (hk : kf < 5) (f : (lkU (S 120) n a (S 114 19) (mtlX S) hh).1 = 0) : RDR (addFS T sp (lkU (S 120) n a (S 114 19) (mtlX S) hh).2.2.2) sp (mtlG n kf hh 0 (mtlI S kf) (nI 0)).2 wt hh ww kl kc (kf + 1) := by
  obtain ⟨-, -, -, -, q5, -⟩ := mtlG_R (kf := kf) (hh := hh) hn h15 ha
  obtain ⟨q15, -, q124⟩ := q5 f
  obtain ⟨g1, g2, g3⟩ := mtlG_f (n := n) (k := kf) hh 0 (mtlI S kf) (nI 0)
  obtain ⟨⟨t4, t5, t6, t7, t8, t9, t10, t11⟩, ⟨u18, u19, u20, u22, u25, u27, uw⟩, hor, ⟨b1, b2, b3, b4, b5⟩, hl, hc, hf⟩ := h
  have hX : mtlX S = nI (2 ^ ww - 1) := by unfold mtlX; rw [u19, hi_n ww b2]
  have sb : sub (hh * ww) (lkU (S 120) n a (S 114 19) (mtlX S) hh).2.2.2 := by
    rw [u19] at f ⊢
    exact lk_sub b2 hX hh b1 f
  generalize (lkU (S 120) n a (S 114 19) (mtlX S) hh).2.2.2 = x at *
  have mi : ∀ k, k ≠ 25 → mtlI S kf 114 k = S 114 k := fun k hk => by unfold mtlI; rw [up2_ne _ _ _ (by omega), up114b hk]
  have m25 : mtlI S kf 114 25 = nI (kf + 1) := by unfold mtlI; rw [up2_ne _ _ _ (by omega), up2_same, pk_us]
  have mo : ∀ i, i ≠ 114 → i ≠ 124 → mtlI S kf i = S i := fun i h1 h2 => by unfold mtlI; rw [up2_ne _ _ _ h2, up2_ne _ _ _ h1]
  have m4 : ∀ j, j ≠ kf → mtlI S kf 124 j = S 124 j := fun j hj => by unfold mtlI; rw [up2_same, pk_un hj, up2_ne _ _ _ (by omega)]
  have eA : addFS T sp x = up2 (up2 T (sp + 4) kf x) sp 10 (nI (kf + 1)) := by
    unfold addFS
    dsimp only
    rw [t10, putN hk (by decide), up2_ne T kf x (show sp ≠ sp + 4 by omega), t10, nI_add]
  rw [eA]
  have r : ∀ k, k ≠ 10 → up2 (up2 T (sp + 4) kf x) sp 10 (nI (kf + 1)) sp k = T sp k := fun k hk => by rw [up2_same, pk_un hk, up2_ne _ _ _ (by omega)]
  have r2 : ∀ i, i ≠ sp → i ≠ sp + 4 → up2 (up2 T (sp + 4) kf x) sp 10 (nI (kf + 1)) i = T i := fun i h1 h2 => by rw [up2_ne _ _ _ h1, up2_ne _ _ _ h2]
  refine ⟨⟨by rw [r 4 (by omega)]; exact t4, by rw [r 5 (by omega)]; exact t5, by rw [r 6 (by omega)]; exact t6, by rw [r 7 (by omega), g1 28 (by omega), mi 28 (by omega)]; exact t7, by rw [r 8 (by omega)]; exact t8, by rw [r 9 (by omega)]; exact t9, by rw [up2_same, pk_us], by rw [r 11 (by omega)]; exact t11⟩, ⟨by rw [g1 18 (by omega), mi 18 (by omega)]; exact u18, by rw [g1 19 (by omega), mi 19 (by omega)]; exact u19, by rw [g1 20 (by omega), mi 20 (by omega)]; exact u20, by rw [g1 22 (by omega), mi 22 (by omega)]; exact u22, by rw [g1 25 (by omega), m25], by rw [g1 27 (by omega), mi 27 (by omega)]; exact u27, uw⟩, Or.inr (by omega), ⟨b1, b2, b3, b4, by omega⟩, fun l hl' => ?_, fun c hc' => ?_, fun g hg => ?_⟩
  · rw [r2 _ (by omega) (by omega), g2 121 (by omega) (by omega), mo 121 (by omega) (by omega)]; exact hl l hl'
  · rw [r2 _ (by omega) (by omega), r2 _ (by omega) (by omega), g2 122 (by omega) (by omega), mo 122 (by omega) (by omega), g2 123 (by omega) (by omega), mo 123 (by omega) (by omega)]; exact hc c hc'
  · rw [up2_ne _ _ _ (by omega), up2_same]
    by_cases e : g = kf
    · subst e; rw [pk_us, q124]; exact ⟨rfl, sb⟩
    · rw [pk_un e, g3 g e, m4 g e]; exact hf g (by omega)
