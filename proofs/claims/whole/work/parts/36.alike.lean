/-! bounds, asked by the class and by the model -/
theorem t_lt {x y : Int32} : x < y ↔ x.toInt < y.toInt := Int32.lt_iff_toInt_lt
theorem t_le {x y : Int32} : x ≤ y ↔ x.toInt ≤ y.toInt := Int32.le_iff_toInt_le
theorem out_in {v : Int32} {a b : Nat} {A B : Int64} (ha : a < 2 ^ 31) (hb : b < 2 ^ 31) (hA : A.toInt = a) (hB : B.toInt = b) : outP v (nI a) (nI b) ↔ ¬ inP v.toInt64 A B := by
  unfold outP inP
  rw [t_lt, t_lt, nI_toInt ha, nI_toInt hb, Int64.le_iff_toInt_le, Int64.le_iff_toInt_le, hA, hB, Int32.toInt_toInt64]
  omega
theorem km1 {k : Nat} (hk : k ≤ 1000) : (nI k - nI 1).toInt = (k : Int) - 1 := pk_sub_toInt (by omega) (by omega)
theorem has_is {k : Nat} {x : Int32} (hk : k ≤ 1000) : hasP (nI k) x ↔ isM (nI k) x := by
  unfold hasP isM inP
  rw [t_lt, t_le, nI_toInt (by omega), Int64.le_iff_toInt_le, Int64.le_iff_toInt_le, Int32.toInt_toInt64, Int32.toInt_toInt64, km1 hk]
  show ¬ x.toInt < 0 ∧ ¬ (k : Int) ≤ x.toInt ↔ (0 : Int) ≤ x.toInt ∧ x.toInt ≤ (k : Int) - 1
  omega
theorem has_n {k : Nat} {x : Int32} (hk : k ≤ 1000) (h : hasP (nI k) x) : ∃ j, j < k ∧ x = nI j := isM_n hk ((has_is hk).mp h)
/-! the class and the model, alike in all -/
def R0 (T : Sto) (pp sp : Nat) : Prop := T 0 8 = nI pp ∧ T 0 9 = nI sp ∧ ((pp = 96 ∧ sp = 101) ∨ (pp = 101 ∧ sp = 96))
def SDR (T U : Sto) : Prop := ∃ a, a < 2 ^ 31 ∧ T 94 0 = nI a ∧ U 114 11 = nI a
def PST (T U : Sto) (nn nl u e : Nat) : Prop := T 41 2 = nI u ∧ U 114 32 = nI u ∧ u ≤ 16 ∧ T 41 1 = nI e ∧ e < 16 ∧ ∀ k, k < u → DM T (43 + 3 * ((e + 16 - u + k) % 16)) (fun j => U 128 (34 * k + j)) nn nl
def IMG (T U : Sto) (nn nl : Nat) : Prop := ∀ i, i < 2 → T (106 + 4 * i) 2 = U 133 i ∧ (¬ U 133 i = 0 → DM T (106 + 4 * i + 1) (fun j => U 132 (35 * i + j)) nn nl ∧ ∃ a, a < 2 ^ 31 ∧ T (106 + 4 * i) 1 = nI a ∧ U 132 (35 * i + 34) = nI a)
def BKR (T U : Sto) (nn nb : Nat) : Prop := T 91 2 = nI nb ∧ U 114 35 = nI nb ∧ nb ≤ 15 ∧ ∀ k, k < nb → T 92 k = U 130 k ∧ T 93 k = U 131 k ∧ ∃ a, a < nn ∧ U 130 k = nI a
def TXR (T U : Sto) (n : Nat) : Prop := T 1 1 = nI n ∧ U 114 13 = nI n ∧ n ≤ 240 ∧ T 1 3 = U 114 14 ∧ T 2 = U 120 ∧ ∀ i, i < n → ∃ c, c ≤ 255 ∧ U 120 i = nI c
def R (T U : Sto) (pp sp hh ww nl nc nf u e nb n : Nat) : Prop := R0 T pp sp ∧ PLR T pp U hh ww nl nc nf ∧ DM T 3 (U 119) (hh * ww) nl ∧ (CZ T 6 ∧ CZ T 10) ∧ SDR T U ∧ PST T U (hh * ww) nl u e ∧ IMG T U (hh * ww) nl ∧ BKR T U (hh * ww) nb ∧ TXR T U n
def RR (T U : Sto) : Prop := ∃ pp sp hh ww nl nc nf u e nb n, R T U pp sp hh ww nl nc nf u e nb n
theorem R0.c {T T' : Sto} {pp sp : Nat} (h : R0 T pp sp) (e : T' 0 = T 0) : R0 T' pp sp := by unfold R0; rw [e]; exact h
theorem R0.pl {T : Sto} {pp sp : Nat} (h : R0 T pp sp) : (pp = 96 ∨ pp = 101) := h.2.2.elim (fun q => Or.inl q.1) (fun q => Or.inr q.1)
theorem R0.ps {T : Sto} {pp sp : Nat} (h : R0 T pp sp) : (sp = 96 ∨ sp = 101) := h.2.2.elim (fun q => Or.inr q.2) (fun q => Or.inl q.2)
theorem R0.hpl {T : Sto} {pp sp : Nat} (h : R0 T pp sp) : (T 0 8).toNatClampNeg = pp := by rw [h.1, nI_clamp (by have := h.pl; omega)]
theorem R0.hps {T : Sto} {pp sp : Nat} (h : R0 T pp sp) : (T 0 9).toNatClampNeg = sp := by rw [h.2.1, nI_clamp (by have := h.ps; omega)]
theorem pl_sh {pp : Nat} (h : pp = 96 ∨ pp = 101) : jsh pp = (0, 6) ∧ jsh (pp + 1) = (1, 4) ∧ jsh (pp + 2) = (1, 6) ∧ jsh (pp + 3) = (1, 6) ∧ jsh (pp + 4) = (1, 5) := by
  rcases h with rfl | rfl <;> exact ⟨rfl, rfl, rfl, rfl, rfl⟩
theorem SDR.c {T T' U U' : Sto} (h : SDR T U) (e1 : T' 94 0 = T 94 0) (e2 : U' 114 11 = U 114 11) : SDR T' U' := by unfold SDR; rw [e1, e2]; exact h
theorem PST.c {T T' U U' : Sto} {nn nl u e : Nat} (h : PST T U nn nl u e) (e1 : ∀ i, 41 ≤ i → i ≤ 90 → T' i = T i) (e2 : U' 114 32 = U 114 32) (e3 : U' 128 = U 128) : PST T' U' nn nl u e := by
  obtain ⟨a, b, c, d, f, g⟩ := h
  refine ⟨by rw [e1 41 (by omega) (by omega)]; exact a, by rw [e2]; exact b, c, by rw [e1 41 (by omega) (by omega)]; exact d, f, fun k hk => ?_⟩
  rw [e3]
  have : (e + 16 - u + k) % 16 < 16 := Nat.mod_lt _ (by decide)
  exact (g k hk).cT (e1 _ (by omega) (by omega)) (e1 _ (by omega) (by omega)) (e1 _ (by omega) (by omega))
theorem IMG.c {T T' U U' : Sto} {nn nl : Nat} (h : IMG T U nn nl) (e1 : ∀ i, 106 ≤ i → i ≤ 113 → T' i = T i) (e2 : U' 133 = U 133) (e3 : U' 132 = U 132) : IMG T' U' nn nl := fun i hi => by
  obtain ⟨a, b⟩ := h i hi
  rw [e2, e3, e1 _ (by omega) (by omega)]
  refine ⟨a, fun q => ⟨(b q).1.cT (e1 _ (by omega) (by omega)) (e1 _ (by omega) (by omega)) (e1 _ (by omega) (by omega)), (b q).2⟩⟩
theorem BKR.c {T T' U U' : Sto} {nn nb : Nat} (h : BKR T U nn nb) (e1 : ∀ i, 91 ≤ i → i ≤ 93 → T' i = T i) (e2 : U' 114 35 = U 114 35) (e3 : U' 130 = U 130) (e4 : U' 131 = U 131) : BKR T' U' nn nb := by
  unfold BKR
  rw [e1 91 (by omega) (by omega), e1 92 (by omega) (by omega), e1 93 (by omega) (by omega), e2, e3, e4]
  exact h
theorem TXR.c {T T' U U' : Sto} {n : Nat} (h : TXR T U n) (e1 : T' 1 = T 1) (e2 : T' 2 = T 2) (e3 : U' 114 13 = U 114 13) (e4 : U' 114 14 = U 114 14) (e5 : U' 120 = U 120) : TXR T' U' n := by
  unfold TXR
  rw [e1, e2, e3, e4, e5]
  exact h
theorem CZ.c {T T' : Sto} {ff : Nat} (h : CZ T ff) (e : T' (ff + 2) = T (ff + 2)) : CZ T' ff := by unfold CZ; rw [e]; exact h
theorem R.cT {T T' U : Sto} {pp sp hh ww nl nc nf u e nb n : Nat} (h : R T U pp sp hh ww nl nc nf u e nb n) (q : ∀ i, i < 114 → T' i = T i) : R T' U pp sp hh ww nl nc nf u e nb n := by
  obtain ⟨a, b, c, d, f, g, i, j, k⟩ := h
  have := a.pl
  exact ⟨a.c (q 0 (by omega)), b.cT (q _ (by omega)) (q _ (by omega)) (q _ (by omega)) (q _ (by omega)), c.cT (q _ (by omega)) (q _ (by omega)) (q _ (by omega)), ⟨d.1.c (q _ (by omega)), d.2.c (q _ (by omega))⟩, f.c (by rw [q 94 (by omega)]) rfl, g.c (fun i _ h => q i (by omega)) rfl rfl, i.c (fun i _ h => q i (by omega)) rfl rfl, j.c (fun i _ h => q i (by omega)) rfl rfl rfl, k.c (q _ (by omega)) (q _ (by omega)) rfl rfl rfl⟩
theorem R.cU {T U U' : Sto} {pp sp hh ww nl nc nf u e nb n : Nat} (h : R T U pp sp hh ww nl nc nf u e nb n) (q : ∀ i, 114 ≤ i → U' i = U i) : R T U' pp sp hh ww nl nc nf u e nb n := by
  obtain ⟨a, b, c, d, f, g, i, j, k⟩ := h
  have q1 := q 114 (by omega)
  exact ⟨a, b.cU (fun k _ => by rw [q1]) (q _ (by omega)) (q _ (by omega)) (q _ (by omega)), by rw [q 119 (by omega)]; exact c, d, f.c rfl (by rw [q1]), g.c (fun _ _ _ => rfl) (by rw [q1]) (q _ (by omega)), i.c (fun _ _ _ => rfl) (q _ (by omega)) (q _ (by omega)), j.c (fun _ _ _ => rfl) (by rw [q1]) (q _ (by omega)) (q _ (by omega)), k.c rfl rfl (by rw [q1]) (by rw [q1]) (q _ (by omega))⟩
theorem R.mw {T U : Sto} {pp sp hh ww nl nc nf u e nb n : Nat} (h : R T U pp sp hh ww nl nc nf u e nb n) : MW U hh ww nl nc := by
  obtain ⟨-, b, c, -⟩ := h
  have hn := b.n25
  obtain ⟨-, ⟨u0, u1, u2, u4, -⟩, hor, ⟨h5, w5, l4, c6, -⟩, hc, -⟩ := b
  refine ⟨u0, u1, h5, w5, by omega, u2, l4, u4, c6, fun c hc' => ?_, fun c hc' => ?_, fun l hl => ?_⟩
  · obtain ⟨a, b, ha, hb, _, _, _, e1, e2⟩ := hc c hc'
    exact ⟨a, by omega, e1⟩
  · obtain ⟨a, b, ha, hb, _, _, _, e1, e2⟩ := hc c hc'
    exact ⟨b, by omega, e2⟩
  · obtain ⟨_, a, ha, ea⟩ := c.2.2.1 l hl
    exact ⟨a, by omega, ea⟩
/-- the two are one store again -/
theorem RR.one {S S' : Sto} (h : RR S S') (q : ∀ i, i < 114 → S' i = S i) : RR S' S' := by
  obtain ⟨pp, sp, hh, ww, nl, nc, nf, u, e, nb, n, h⟩ := h
  exact ⟨pp, sp, hh, ww, nl, nc, nf, u, e, nb, n, h.cT q⟩
