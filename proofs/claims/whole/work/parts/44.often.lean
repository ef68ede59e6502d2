/-! how often one may look: the best of all sets, however they are gone through -/
def pcn (s : Nat) : Nat := cnt (bt (nI s)) 32
theorem pcn_bc (s : Nat) : bcF (nI s) = nI (pcn s) := bc_c _
theorem pcn_le (s : Nat) : pcn s ≤ 32 := cnt_le _ _
theorem bt_nI {s : Nat} (h : s < 2 ^ 32) (j : Nat) : bt (nI s) j = s.testBit j := by
  unfold bt
  rw [BitVec.getLsbD, pk_tn h]
theorem pcn_bits {s : Nat} (h : s < 256) : bitsF (nI s) 25 = nI (pcn s) := by
  rw [← pcn_bc, sub_bc (nn := 8) (fun k hk => ?_) (by omega)]
  rw [bt_nI (by omega)]
  exact Nat.testBit_lt_two_pow (Nat.lt_of_lt_of_le h (Nat.pow_le_pow_right (by decide) hk : 2 ^ 8 ≤ 2 ^ k))
def Opt (Q E : Nat → Prop) (b c : Int32) : Prop := (b = -1 ∧ c = -1 ∧ ∀ s, E s → ¬ Q s) ∨ ∃ s, s < 256 ∧ E s ∧ Q s ∧ b = nI s ∧ c = nI (pcn s) ∧ ∀ t, E t → Q t → pcn t < pcn s ∨ (pcn t = pcn s ∧ s ≤ t)
theorem Opt.c {Q E E' : Nat → Prop} {b c : Int32} (h : Opt Q E b c) (e : ∀ s, E s ↔ E' s) : Opt Q E' b c := by
  rcases h with ⟨a, b, h⟩ | ⟨s, h1, h2, h3, h4, h5, h6⟩
  · exact Or.inl ⟨a, b, fun s hs => h s ((e s).mpr hs)⟩
  · exact Or.inr ⟨s, h1, (e s).mp h2, h3, h4, h5, fun t ht => h6 t ((e t).mpr ht)⟩
theorem Opt.one {Q E : Nat → Prop} {b c b' c' : Int32} (h : Opt Q E b c) (h' : Opt Q E b' c') : b = b' ∧ c = c' := by
  rcases h with ⟨a, x, h⟩ | ⟨s, h1, h2, h3, h4, h5, h6⟩
  · rcases h' with ⟨a', x', _⟩ | ⟨s, _, e, q, _⟩
    · exact ⟨a.trans a'.symm, x.trans x'.symm⟩
    · exact absurd q (h s e)
  · rcases h' with ⟨_, _, g⟩ | ⟨t, g1, g2, g3, g4, g5, g6⟩
    · exact absurd h3 (g s h2)
    · have x := h6 t g2 g3
      have y := g6 s h2 h3
      have e : s = t := by omega
      subst e
      exact ⟨h4.trans g4.symm, h5.trans g5.symm⟩
theorem m1_lt_n {k : Nat} (h : k < 2 ^ 31) : (-1 : Int32) < nI k := by
  rw [t_lt, nI_toInt h]
  show (-1 : Int) < k
  omega
/-- one more set is weighed -/
theorem Opt.add {Q E : Nat → Prop} {b c : Int32} {s : Nat} (h : Opt Q E b c) (hs : s < 256) (p : Prop) [Decidable p] (hp : p ↔ Q s) :
    Opt Q (fun t => E t ∨ t = s) (if (c < nI (pcn s) ∨ (nI (pcn s) = c ∧ ¬ b ≤ nI s)) ∧ p then nI s else b) (if (c < nI (pcn s) ∨ (nI (pcn s) = c ∧ ¬ b ≤ nI s)) ∧ p then nI (pcn s) else c) := by
  have l := pcn_le s
  by_cases q : Q s
  · rcases h with ⟨rfl, rfl, h⟩ | ⟨t, h1, h2, h3, rfl, rfl, h6⟩
    · rw [if_pos ⟨Or.inl (m1_lt_n (by omega)), hp.mpr q⟩, if_pos ⟨Or.inl (m1_lt_n (by omega)), hp.mpr q⟩]
      refine Or.inr ⟨s, hs, Or.inr rfl, q, rfl, rfl, fun t ht qt => ?_⟩
      rcases ht with ht | rfl
      · exact absurd qt (h t ht)
      · exact Or.inr ⟨rfl, Nat.le_refl _⟩
    · have l2 := pcn_le t
      by_cases x : pcn t < pcn s ∨ (pcn s = pcn t ∧ s < t)
      · have x' : (nI (pcn t) < nI (pcn s) ∨ (nI (pcn s) = nI (pcn t) ∧ ¬ nI t ≤ nI s)) ∧ p := ⟨x.elim (fun z => Or.inl (nI_lt z (by omega))) (fun z => Or.inr ⟨congrArg nI z.1, nI_ge z.2 (by omega)⟩), hp.mpr q⟩
        rw [if_pos x', if_pos x']
        refine Or.inr ⟨s, hs, Or.inr rfl, q, rfl, rfl, fun v hv qv => ?_⟩
        rcases hv with hv | rfl
        · have := h6 v hv qv
          omega
        · exact Or.inr ⟨rfl, Nat.le_refl _⟩
      · have x' : ¬ ((nI (pcn t) < nI (pcn s) ∨ (nI (pcn s) = nI (pcn t) ∧ ¬ nI t ≤ nI s)) ∧ p) := fun z => by
          apply x
          rcases z.1 with z | ⟨z, y⟩
          · exact Or.inl ((nI_ltI (by omega) (by omega)).mp z)
          · exact Or.inr ⟨(nI_eq (by omega) (by omega)).mp z, Nat.lt_of_not_le (fun w => y (nI_le w (by omega)))⟩
        rw [if_neg x', if_neg x']
        refine Or.inr ⟨t, h1, Or.inl h2, h3, rfl, rfl, fun v hv qv => ?_⟩
        rcases hv with hv | rfl
        · exact h6 v hv qv
        · omega
  · rw [if_neg (fun z => q (hp.mp z.2)), if_neg (fun z => q (hp.mp z.2))]
    rcases h with ⟨rfl, rfl, h⟩ | ⟨t, h1, h2, h3, rfl, rfl, h6⟩
    · exact Or.inl ⟨rfl, rfl, fun t ht => ht.elim (h t) (fun z => by rw [z]; exact q)⟩
    · exact Or.inr ⟨t, h1, Or.inl h2, h3, rfl, rfl, fun v hv qv => hv.elim (fun z => h6 v z qv) (fun z => absurd (z ▸ qv) q)⟩
/-! the model's path of a set depends on the days gone by alone -/
theorem slT_low {U : Sto} {hh ww nl nc a b : Nat} {r : Int32} (ha : a < 2 ^ 32) (hb : b < 2 ^ 32) : ∀ k, k ≤ 32 → (∀ j, j < k → a.testBit j = b.testBit j) → slT U hh ww nl nc r (nI a) k = slT U hh ww nl nc r (nI b) k
  | 0, _, _ => rfl
  | k + 1, hk, h => by
    have ih := slT_low (U := U) (hh := hh) (ww := ww) (nl := nl) (nc := nc) (r := r) ha hb k (by omega) (fun j hj => h j (by omega))
    have e := h k (by omega)
    unfold slT
    rw [ih]
    have x := hasM_b (x := nI a) (show k < 32 by omega)
    have y := hasM_b (x := nI b) (show k < 32 by omega)
    rw [bt_nI ha] at x
    rw [bt_nI hb, ← e] at y
    by_cases c : a.testBit k = true
    · rw [if_pos (x.mpr c), if_pos (y.mpr c)]
    · rw [if_neg (fun z => c (x.mp z)), if_neg (fun z => c (y.mp z))]
theorem slT_0 {U : Sto} {hh ww nl nc a k : Nat} {r : Int32} (hk : k < 32) (ha : a < 2 ^ k) : slT U hh ww nl nc r (nI a) (k + 1) = passS (slT U hh ww nl nc r (nI a) k) (hh * ww) ww nl nc r := by
  have h32 : 2 ^ k ≤ 2 ^ 32 := Nat.pow_le_pow_right (by decide) (by omega)
  have x := hasM_b (x := nI a) hk
  rw [bt_nI (by omega), Nat.testBit_lt_two_pow ha] at x
  show (if hasM (nI a) (nI k) then _ else _) = _
  rw [if_neg (fun z => absurd (x.mp z) (by decide))]
theorem slT_1 {U : Sto} {hh ww nl nc a k : Nat} {r : Int32} (hk : k < 31) (ha : a < 2 ^ k) : slT U hh ww nl nc r (nI (2 ^ k + a)) (k + 1) = mlookS (passS (slT U hh ww nl nc r (nI a) k) (hh * ww) ww nl nc r) (hh * ww) := by
  have h32 : 2 ^ k * 2 ≤ 2 ^ 32 := (Nat.pow_le_pow_right (by decide) (by omega) : 2 ^ (k + 1) ≤ 2 ^ 32)
  have x := hasM_b (x := nI (2 ^ k + a)) (show k < 32 by omega)
  rw [bt_nI (by omega), Nat.testBit_two_pow_add_eq, Nat.testBit_lt_two_pow ha] at x
  show (if hasM (nI (2 ^ k + a)) (nI k) then _ else _) = _
  rw [if_pos (x.mpr rfl), slT_low (a := 2 ^ k + a) (b := a) (by omega) (by omega) k (by omega) (fun j hj => Nat.testBit_two_pow_add_gt hj a)]
theorem or_pow {a k : Nat} (hk : k < 8) (ha : a < 2 ^ k) : nI a ||| (nI 1 <<< (nI k &&& 31)) = nI (2 ^ k + a) := by
  have h32 : 2 ^ k * 2 ≤ 2 ^ 8 := (Nat.pow_le_pow_right (by decide) (by omega) : 2 ^ (k + 1) ≤ 2 ^ 8)
  apply bt_ext
  intro j hj
  rw [bt_or, bt_pow (by omega), bt_nI (by omega), bt_nI (by omega)]
  rcases Nat.lt_trichotomy j k with h | h | h
  · rw [Nat.testBit_two_pow_add_gt h]
    simp [show ¬ j = k by omega]
  · subst h
    rw [Nat.testBit_two_pow_add_eq, Nat.testBit_lt_two_pow ha]
    simp
  · have p : 2 ^ (k + 1) ≤ 2 ^ j := Nat.pow_le_pow_right (by decide) (by omega)
    have p2 : 2 ^ (k + 1) = 2 ^ k * 2 := rfl
    rw [Nat.testBit_lt_two_pow (x := a) (by omega), Nat.testBit_lt_two_pow (x := 2 ^ k + a) (by omega)]
    simp [show ¬ j = k by omega]
theorem tl_lo {pp nl nc i : Nat} : ∀ (m : Nat) (S : Sto) (fr k : Nat) (lk : Int32), i < 17 + 3 * k → i ≠ 9 → i ≠ 11 → i ≠ 12 → tlS pp nl nc m S fr k lk i = S i
  | 0, S, fr, k, lk, _, h9, _, _ => we_o h9
  | m + 1, S, fr, k, lk, hi, h9, h11, h12 => by
    unfold tlS
    dsimp only
    rw [tl_lo m _ _ _ _ (by omega) h9 h11 h12, shr_o (by omega) (by omega), tl_lo m _ _ _ _ (by omega) h9 h11 h12, rain_o (by omega) (by omega) (by omega) (by omega), cop_o (by omega) (by omega) (by omega)]
theorem slT_pl {T U : Sto} {pp hh ww nl nc nf k : Nat} {r s : Int32} (h : PLR T pp U hh ww nl nc nf) : PLR T pp (slT U hh ww nl nc r s k) hh ww nl nc nf := h.cU (fun j _ => by rw [slT_o (by omega) (by omega)]) (slT_o (by omega) (by omega) k) (slT_o (by omega) (by omega) k) (slT_o (by omega) (by omega) k)
abbrev qV (U : Sto) (hh ww nl nc rr n : Nat) (w : Int32) (s : Nat) : Prop := ¬ slV U hh ww nl nc (nI rr) (nI s) n < w
theorem split_pow {s n k a : Nat} (ha : a < 2 ^ k) : (s < 2 ^ n ∧ s % 2 ^ k = a) ↔ ((s < 2 ^ n ∧ s % 2 ^ (k + 1) = a) ∨ (s < 2 ^ n ∧ s % 2 ^ (k + 1) = 2 ^ k + a)) := by
  have e : s % 2 ^ (k + 1) = s % 2 ^ k + 2 ^ k * (s / 2 ^ k % 2) := by rw [Nat.pow_succ, Nat.mod_mul]
  have m : s % 2 ^ k < 2 ^ k := Nat.mod_lt _ (Nat.pow_pos (by decide))
  rw [e]
  rcases Nat.mod_two_eq_zero_or_one (s / 2 ^ k) with h | h <;> rw [h] <;> omega
theorem tl_rel {U : Sto} {pp hh ww nl nc nf rr n : Nat} {w : Int32} (hp : pp = 96 ∨ pp = 101) (h0 : 0 < hh) (hr : rr ≤ 9) (hn8 : n ≤ 8) : ∀ (m k : Nat) (S : Sto) (fr a : Nat) (E : Nat → Prop), k + m = n → a < 2 ^ k → fr + 2 < 17 + 3 * k → PLR S pp U hh ww nl nc nf → DM S fr (slT U hh ww nl nc (nI rr) (nI a) k 119) (hh * ww) nl → CZ S 10 → S 9 4 = nI rr → S 9 5 = w → Opt (qV U hh ww nl nc rr n w) E (S 9 6) (S 9 7) →
    Opt (qV U hh ww nl nc rr n w) (fun s => E s ∨ (s < 2 ^ n ∧ s % 2 ^ k = a)) (tlS pp nl nc m S fr k (nI a) 9 6) (tlS pp nl nc m S fr k (nI a) 9 7) ∧ CZ (tlS pp nl nc m S fr k (nI a)) 10
  | 0, k, S, fr, a, E, hk, ha, hf, hP, hD, hz, h4, h5, ho => by
    have hn := hP.n25
    have e : k = n := by omega
    subst e
    have h256 : 2 ^ k ≤ 2 ^ 8 := Nat.pow_le_pow_right (by decide) (by omega)
    have ec : bcF (marksF (S (fr + 1)) 25) = slV U hh ww nl nc (nI rr) (nI a) k := by rw [hD.marks hn, sub_bc (msh_sub hn) hn]; rfl
    refine ⟨?_, ?_⟩
    · have q := ho.add (s := a) (by omega) (¬ slV U hh ww nl nc (nI rr) (nI a) k < w) Iff.rfl
      have q2 : tlS pp nl nc 0 S fr k (nI a) 9 6 = (if (S 9 7 < nI (pcn a) ∨ (nI (pcn a) = S 9 7 ∧ ¬ S 9 6 ≤ nI a)) ∧ ¬ slV U hh ww nl nc (nI rr) (nI a) k < w then nI a else S 9 6) ∧ tlS pp nl nc 0 S fr k (nI a) 9 7 = (if (S 9 7 < nI (pcn a) ∨ (nI (pcn a) = S 9 7 ∧ ¬ S 9 6 ≤ nI a)) ∧ ¬ slV U hh ww nl nc (nI rr) (nI a) k < w then nI (pcn a) else S 9 7) := by
        show weS S fr (nI a) 9 6 = _ ∧ weS S fr (nI a) 9 7 = _
        unfold weS
        rw [ec, pcn_bc, h5]
        by_cases c : (S 9 7 < nI (pcn a) ∨ (nI (pcn a) = S 9 7 ∧ ¬ S 9 6 ≤ nI a)) ∧ ¬ slV U hh ww nl nc (nI rr) (nI a) k < w
        · rw [if_pos c, if_pos c, if_pos c, up2_same, pk_us, pk_un (by omega), up2_same, pk_us]
          exact ⟨rfl, rfl⟩
        · rw [if_neg c, if_neg c, if_neg c]
          exact ⟨rfl, rfl⟩
      rw [q2.1, q2.2]
      refine q.c (fun s => or_congr Iff.rfl ⟨fun z => by subst z; exact ⟨ha, Nat.mod_eq_of_lt ha⟩, fun z => by rw [Nat.mod_eq_of_lt z.1] at z; exact z.2⟩)
    · exact hz.c (we_o (by omega))
  | m + 1, k, S, fr, a, E, hk, ha, hf, hP, hD, hz, h4, h5, ho => by
    have hn := hP.n25
    have hl4 := hP.2.2.2.1.2.2.1
    have h256 : 2 ^ k * 2 ≤ 2 ^ 8 := (Nat.pow_le_pow_right (by decide) (by omega) : 2 ^ (k + 1) ≤ 2 ^ 8)
    have ps : 2 ^ (k + 1) = 2 ^ k * 2 := rfl
    show Opt _ _ ((let A := copS S (17 + 3 * k) fr; let B := rainS A pp (17 + 3 * k) 10 nl nc (A 9 4); let G := tlS pp nl nc m B (17 + 3 * k) (k + 1) (nI a); tlS pp nl nc m (shrS G (17 + 3 * k) pp) (17 + 3 * k) (k + 1) (nI a ||| (nI 1 <<< (nI k &&& 31)))) 9 6) ((let A := copS S (17 + 3 * k) fr; let B := rainS A pp (17 + 3 * k) 10 nl nc (A 9 4); let G := tlS pp nl nc m B (17 + 3 * k) (k + 1) (nI a); tlS pp nl nc m (shrS G (17 + 3 * k) pp) (17 + 3 * k) (k + 1) (nI a ||| (nI 1 <<< (nI k &&& 31)))) 9 7) ∧ CZ (let A := copS S (17 + 3 * k) fr; let B := rainS A pp (17 + 3 * k) 10 nl nc (A 9 4); let G := tlS pp nl nc m B (17 + 3 * k) (k + 1) (nI a); tlS pp nl nc m (shrS G (17 + 3 * k) pp) (17 + 3 * k) (k + 1) (nI a ||| (nI 1 <<< (nI k &&& 31)))) 10
    dsimp only
    rw [or_pow (by omega) ha]
    have aO : ∀ i, i ≠ 17 + 3 * k → i ≠ 17 + 3 * k + 1 → i ≠ 17 + 3 * k + 2 → copS S (17 + 3 * k) fr i = S i := fun i h1 h2 h3 => cop_o h1 h2 h3
    have aD := hD.cop (dd := 17 + 3 * k) (by omega) hn hl4
    have aP : PLR (copS S (17 + 3 * k) fr) pp U hh ww nl nc nf := hP.cT (aO _ (by omega) (by omega) (by omega)) (aO _ (by omega) (by omega) (by omega)) (aO _ (by omega) (by omega) (by omega)) (aO _ (by omega) (by omega) (by omega))
    have aZ : CZ (copS S (17 + 3 * k) fr) 10 := hz.c (aO _ (by omega) (by omega) (by omega))
    have a9 : copS S (17 + 3 * k) fr 9 = S 9 := aO 9 (by omega) (by omega) (by omega)
    rw [a9, h4]
    generalize copS S (17 + 3 * k) fr = A at aD aP aZ a9
    obtain ⟨bD, bZ⟩ := day_rel (dd := 17 + 3 * k) (ff := 10) (by omega) (by omega) (by omega) (slT_pl (r := nI rr) (s := nI a) (k := k) aP) h0 aD aZ hr
    have bO : ∀ i, i ≠ 17 + 3 * k → i ≠ 17 + 3 * k + 1 → i ≠ 11 → i ≠ 12 → rainS A pp (17 + 3 * k) 10 nl nc (nI rr) i = A i := fun i h1 h2 h3 h5 => rain_o h1 h2 h3 h5
    have bP : PLR (rainS A pp (17 + 3 * k) 10 nl nc (nI rr)) pp U hh ww nl nc nf := aP.cT (bO _ (by omega) (by omega) (by omega) (by omega)) (bO _ (by omega) (by omega) (by omega) (by omega)) (bO _ (by omega) (by omega) (by omega) (by omega)) (bO _ (by omega) (by omega) (by omega) (by omega))
    have b9 : rainS A pp (17 + 3 * k) 10 nl nc (nI rr) 9 = S 9 := by rw [bO 9 (by omega) (by omega) (by omega) (by omega), a9]
    generalize rainS A pp (17 + 3 * k) 10 nl nc (nI rr) = B at bD bZ bP b9
    rw [← slT_0 (by omega) ha] at bD
    obtain ⟨gO, gZ⟩ := tl_rel (w := w) hp h0 hr hn8 m (k + 1) B (17 + 3 * k) a E (by omega) (by omega) (by omega) bP bD bZ (by rw [b9]; exact h4) (by rw [b9]; exact h5) (by rw [b9]; exact ho)
    have gP : PLR (tlS pp nl nc m B (17 + 3 * k) (k + 1) (nI a)) pp U hh ww nl nc nf := bP.cT (tl_o (by omega) m _ _ _ _ (by omega)) (tl_o (by omega) m _ _ _ _ (by omega)) (tl_o (by omega) m _ _ _ _ (by omega)) (tl_o (by omega) m _ _ _ _ (by omega))
    have gD := bD.cT (T' := tlS pp nl nc m B (17 + 3 * k) (k + 1) (nI a)) (tl_lo m _ _ _ _ (by omega) (by omega) (by omega) (by omega)) (tl_lo m _ _ _ _ (by omega) (by omega) (by omega) (by omega)) (tl_lo m _ _ _ _ (by omega) (by omega) (by omega) (by omega))
    have g9 : ∀ q, q < 6 → tlS pp nl nc m B (17 + 3 * k) (k + 1) (nI a) 9 q = S 9 q := fun q hq => by rw [tl_9 hq m _ _ _ _ (by omega), b9]
    generalize tlS pp nl nc m B (17 + 3 * k) (k + 1) (nI a) = G at gO gZ gP gD g9
    rw [slT_0 (by omega) ha] at gD
    have pP : PLR G pp (passS (slT U hh ww nl nc (nI rr) (nI a) k) (hh * ww) ww nl nc (nI rr)) hh ww nl nc nf := (slT_pl (r := nI rr) (s := nI a) (k := k) gP).cU (fun j _ => by rw [pass_o (by omega)]) (pass_o (by omega)) (pass_o (by omega)) (pass_o (by omega))
    have sD := look_rel (dd := 17 + 3 * k) (by omega) pP h0 gD
    rw [← slT_1 (by omega) ha] at sD
    have sO : ∀ i, i ≠ 17 + 3 * k → i ≠ 17 + 3 * k + 1 → shrS G (17 + 3 * k) pp i = G i := fun i h1 h2 => shr_o h1 h2
    have sP : PLR (shrS G (17 + 3 * k) pp) pp U hh ww nl nc nf := gP.cT (sO _ (by omega) (by omega)) (sO _ (by omega) (by omega)) (sO _ (by omega) (by omega)) (sO _ (by omega) (by omega))
    have s9 := sO 9 (by omega) (by omega)
    obtain ⟨fO, fZ⟩ := tl_rel (w := w) hp h0 hr hn8 m (k + 1) (shrS G (17 + 3 * k) pp) (17 + 3 * k) (2 ^ k + a) _ (by omega) (by omega) (by omega) sP sD (gZ.c (sO _ (by omega) (by omega))) (by rw [s9, g9 4 (by omega)]; exact h4) (by rw [s9, g9 5 (by omega)]; exact h5) (by rw [s9]; exact gO)
    exact ⟨fO.c (fun s => by rw [split_pow ha, or_assoc]), fZ⟩
