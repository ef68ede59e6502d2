/-! how many neighbours show -/
theorem nb_cnt {ww hh x : Nat} (hw : 2 ≤ ww) (hn : hh * ww ≤ 25) (hx : x < hh * ww) {m : Nat → Bool} (hm : ∀ k, hh * ww ≤ k → m k = false) : cnt (fun y => (decide (y < hh * ww) && nb ww x y) && m y) 25 = (sd ww (hh * ww) m 0 x).toNat + ((sd ww (hh * ww) m 1 x).toNat + ((sd ww (hh * ww) m 2 x).toNat + (sd ww (hh * ww) m 3 x).toNat)) := by
  have e : ∀ y, y < 25 → ((decide (y < hh * ww) && nb ww x y) && m y) = ((decide (y = x - ww) && (decide (ww ≤ x) && m y)) || ((decide (y = x + ww) && m y) || ((decide (y = x - 1) && (decide (1 ≤ x) && (!decide (x % ww = 0) && m y))) || (decide (y = x + 1) && (!decide ((x + 1) % ww = 0) && m y))))) := fun y _ => by
    by_cases my : m y = true
    · have hy : y < hh * ww := by
        rcases Nat.lt_or_ge y (hh * ww) with q | q
        · exact q
        · rw [hm y q] at my; cases my
      rw [my, Bool.eq_iff_iff]
      unfold nb
      simp only [hy, decide_true, Bool.true_and, Bool.and_true, Bool.or_eq_true, Bool.and_eq_true, decide_eq_true_eq, Bool.not_eq_true', decide_eq_false_iff_not]
      constructor
      · rintro (h | h | ⟨h, h2⟩ | ⟨h, h2⟩)
        · exact Or.inr (Or.inl h)
        · exact Or.inl ⟨by omega, by omega⟩
        · exact Or.inr (Or.inr (Or.inr ⟨h, by rw [← h]; exact h2⟩))
        · exact Or.inr (Or.inr (Or.inl ⟨by omega, by omega, h2⟩))
      · rintro (⟨h, h2⟩ | h | ⟨h, h2, h3⟩ | ⟨h, h2⟩)
        · exact Or.inr (Or.inl (by omega))
        · exact Or.inl h
        · exact Or.inr (Or.inr (Or.inr ⟨by omega, h3⟩))
        · exact Or.inr (Or.inr (Or.inl ⟨h, by rw [h]; exact h2⟩))
    · simp only [Bool.not_eq_true] at my
      simp [my]
  rw [cnt_c e, cnt_or, cnt_or, cnt_or, cnt_pt, cnt_pt, cnt_pt, cnt_pt]
  · have z : ∀ c, ¬ c < 25 → m c = false := fun c hc => hm c (by omega)
    have p1 : (if x - ww < 25 then (decide (ww ≤ x) && m (x - ww)).toNat else 0) = (sd ww (hh * ww) m 0 x).toNat := by
      rw [if_pos (by omega)]
      simp [sd, hx]
    have p2 : (if x + ww < 25 then (m (x + ww)).toNat else 0) = (sd ww (hh * ww) m 1 x).toNat := by
      by_cases c : x + ww < 25
      · rw [if_pos c]; simp [sd]
      · rw [if_neg c]; simp [sd, z _ c]
    have p3 : (if x - 1 < 25 then (decide (1 ≤ x) && (!decide (x % ww = 0) && m (x - 1))).toNat else 0) = (sd ww (hh * ww) m 2 x).toNat := by
      rw [if_pos (by omega)]
      simp [sd, hx]
    have p4 : (if x + 1 < 25 then (!decide ((x + 1) % ww = 0) && m (x + 1)).toNat else 0) = (sd ww (hh * ww) m 3 x).toNat := by
      by_cases c : x + 1 < 25
      · rw [if_pos c]; simp [sd]
      · rw [if_neg c]; simp [sd, z _ c]
    rw [p1, p2, p3, p4]
  · intro k
    by_cases h : k = x - 1
    · by_cases h2 : k = x + 1
      · omega
      · simp [h2]
    · simp [h]
  · intro k
    by_cases h : k = x + ww
    · have a : ¬ k = x - 1 := by omega
      have b : ¬ k = x + 1 := by omega
      simp [a, b]
    · simp [h]
  · intro k
    by_cases h : k = x - ww
    · by_cases h2 : ww ≤ x
      · have a : ¬ k = x + ww := by omega
        have b : ¬ k = x - 1 := by omega
        have c : ¬ k = x + 1 := by omega
        simp [a, b, c]
      · simp [h2]
    · simp [h]
theorem ar_cnt {U : Sto} {hh ww x : Nat} (h5 : ww ≤ 5) (hw : 2 ≤ ww) (hn : hh * ww ≤ 25) (hx : x < hh * ww) {m : Int32} (hm : sub (hh * ww) m) : bitsF (arF (nI ww) (nI x) (hh * ww) &&& m) 25 = nI ((sd ww (hh * ww) (bt m) 0 x).toNat + ((sd ww (hh * ww) (bt m) 1 x).toNat + ((sd ww (hh * ww) (bt m) 2 x).toNat + (sd ww (hh * ww) (bt m) 3 x).toNat))) := by
  rw [bits_c (by omega), ← nb_cnt hw hn hx hm]
  exact congrArg nI (cnt_c (fun k _ => by rw [bt_and, ar_b h5 hw (by omega) _ hn]))
theorem lon_b {T U : Sto} {pp hh ww nl nc nf : Nat} (hP : PLR T pp U hh ww nl nc nf) (h0 : 0 < hh) {m : Int32} (hm : sub (hh * ww) m) {x : Nat} (hx : x < hh * ww) : bitP (lonF T pp m) (nI x) ↔ hasM m (nI x) ∧ ¬ nI 2 ≤ bitsF (arF (nI ww) (nI x) (hh * ww) &&& m) 25 := by
  have hw : 2 ≤ ww := by have := hP.2.2.1; omega
  have hn := hP.n25
  have hk : x < 32 := by omega
  rw [ar_cnt (U := U) hP.2.2.2.1.2.1 hw hn hx hm, bitP_b hk, hasM_b hk]
  unfold lonF
  rw [bt_and, bt_not hk]
  have e : bt (lnF T pp m 4).2 x = ((((false || (false && sd ww (hh * ww) (bt m) 0 x)) || ((false || sd ww (hh * ww) (bt m) 0 x) && sd ww (hh * ww) (bt m) 1 x)) || (((false || sd ww (hh * ww) (bt m) 0 x) || sd ww (hh * ww) (bt m) 1 x) && sd ww (hh * ww) (bt m) 2 x)) || ((((false || sd ww (hh * ww) (bt m) 0 x) || sd ww (hh * ww) (bt m) 1 x) || sd ww (hh * ww) (bt m) 2 x) && sd ww (hh * ww) (bt m) 3 x)) := by
    rw [← bes_b hP h0 hm (show 0 < 4 by omega) hk, ← bes_b hP h0 hm (show 1 < 4 by omega) hk, ← bes_b hP h0 hm (show 2 < 4 by omega) hk, ← bes_b hP h0 hm (show 3 < 4 by omega) hk]
    simp only [lnF, bt_or, bt_and, bt_0]
  rw [e]
  generalize sd ww (hh * ww) (bt m) 0 x = a
  generalize sd ww (hh * ww) (bt m) 1 x = b
  generalize sd ww (hh * ww) (bt m) 2 x = c
  generalize sd ww (hh * ww) (bt m) 3 x = d
  generalize bt m x = z
  revert a b c d z
  decide
theorem look_rel {T U : Sto} {pp dd hh ww nl nc nf : Nat} (hpd : dd + 2 < pp) (hP : PLR T pp U hh ww nl nc nf) (h0 : 0 < hh) (hD : DM T dd (U 119) (hh * ww) nl) : DM (shrS T dd pp) dd (mlookS U (hh * ww) 119) (hh * ww) nl := by
  have hn := hP.n25
  have hl4 : nl ≤ 4 := hP.2.2.2.1.2.2.1
  obtain ⟨d1, d2, d3, d4⟩ := id hD
  have em : marksF (T (dd + 1)) 25 = mshF (U 119) (hh * ww) := hD.marks hn
  have c1 : ∀ k, mlookS U (hh * ww) 119 k = if k = 32 then U 119 32 + nI 1 else if k < hh * ww then mlkV U (hh * ww) k else U 119 k := fun k => by
    unfold mlookS
    by_cases h : k = 32
    · subst h
      rw [if_pos rfl, up2_same, pk_us, upA_same]
      unfold mlkW cpN
      rw [if_neg (by omega)]
    · rw [if_neg h, up2_same, pk_un h, upA_same]
      rfl
  unfold shrS
  rw [em]
  generalize hlon : lonF T pp (mshF (U 119) (hh * ww)) = lon
  have hlo : ∀ x, x < hh * ww → (bitP lon (nI x) ↔ hasM (mshF (U 119) (hh * ww)) (nI x) ∧ ¬ nI 2 ≤ bitsF (arF (U 114 1) (nI x) (hh * ww) &&& mshF (U 119) (hh * ww)) 25) := fun x hx => by
    rw [← hlon, hP.2.1.2.1]
    exact lon_b hP h0 (msh_sub hn) hx
  have hlz : ∀ x, hh * ww ≤ x → x < 25 → ¬ bitP lon (nI x) := fun x hx hx2 => by
    rw [← hlon, bitP_b (by omega)]
    unfold lonF
    rw [bt_and, msh_sub hn x hx]
    simp
  refine ⟨fun x hx => ?_, fun x hx hx2 => ?_, fun l hl => ?_, ?_⟩
  · rw [up2_ne _ _ _ (by omega), upA_same, c1 x, if_neg (by omega), if_pos hx]
    unfold shrW mlkV
    obtain ⟨e, v, hv, ev⟩ := d1 x hx
    by_cases c : bitP lon (nI x)
    · rw [if_pos ⟨by omega, c⟩, if_pos ((hlo x hx).mp c), e, ev]
      have h3 : ¬ U 119 x < nI 3 := fun z => by
        have := (hasM_b (show x < 32 by omega)).mp ((hlo x hx).mp c).1
        rw [msh_b _ hn] at this
        simp [z] at this
      rw [ev] at h3
      refine ⟨?_, bound_b _⟩
      have : ∀ v, v ≤ 9 → ¬ nI v < nI 3 → nI v - nI 2 = boundF (nI v - nI 2) := by decide
      exact this v hv h3
    · rw [if_neg (fun z => c z.2), if_neg (fun z => c ((hlo x hx).mpr z))]
      exact ⟨e, v, hv, ev⟩
  · rw [up2_ne _ _ _ (by omega), upA_same]
    unfold shrW
    rw [if_neg (fun z => hlz x hx hx2 z.2)]
    exact d2 x hx hx2
  · rw [up2_ne _ _ _ (by omega), upA_ne _ _ (by omega), c1 (25 + l), if_neg (by omega), if_neg (by omega)]
    exact d3 l hl
  · rw [up2_same, upA_ne _ _ (by omega), c1 29, c1 30, c1 31, c1 32, c1 33, if_neg (by omega), if_neg (by omega), if_neg (by omega), if_neg (by omega), if_neg (by omega), if_neg (by omega), if_pos rfl, if_neg (by omega), if_neg (by omega), pk_un (by omega), pk_un (by omega), pk_un (by omega), pk_us, pk_un (by omega), d4.2.2.2.1]
    exact ⟨d4.1, d4.2.1, d4.2.2.1, rfl, d4.2.2.2.2⟩
/-! the border -/
def bd4 (ww nn : Nat) (m : Nat → Bool) (n : Nat) : Nat := cnt (fun k => m k && !sd ww nn m 0 k) n + (cnt (fun k => m k && !sd ww nn m 1 k) n + (cnt (fun k => m k && !sd ww nn m 2 k) n + cnt (fun k => m k && !sd ww nn m 3 k) n))
theorem bd_side {T U : Sto} {pp hh ww nl nc nf : Nat} (hP : PLR T pp U hh ww nl nc nf) (h0 : 0 < hh) {m : Int32} (hm : sub (hh * ww) m) {i : Nat} (hi : i < 4) : bcF (m &&& (besF T pp m (nI i) ^^^ (-1))) = nI (cnt (fun k => bt m k && !sd ww (hh * ww) (bt m) i k) (hh * ww)) := by
  have hn := hP.n25
  rw [bc_c]
  apply congrArg nI
  rw [cnt_c (q := fun k => bt m k && !sd ww (hh * ww) (bt m) i k) (fun k hk => by rw [bt_and, bt_not hk, bes_b hP h0 hm hi hk])]
  have := cnt_m (p := fun k => bt m k && !sd ww (hh * ww) (bt m) i k) (n := hh * ww) (fun k hk => by simp [hm k hk]) (32 - hh * ww)
  rwa [show hh * ww + (32 - hh * ww) = 32 by omega] at this
theorem mbd_n {U : Sto} {hh ww : Nat} (h5 : ww ≤ 5) (hw : 2 ≤ ww) (hn : hh * ww ≤ 25) (e1 : U 114 1 = nI ww) : ∀ n, n ≤ hh * ww → mbdF U (hh * ww) n = nI (bd4 ww (hh * ww) (bt (mshF (U 119) (hh * ww))) n)
  | 0, _ => rfl
  | n + 1, hle => by
    unfold mbdF bd4
    rw [mbd_n h5 hw hn e1 n (by omega), e1, ar_cnt (U := U) h5 hw hn (by omega) (msh_sub hn)]
    simp only [cnt]
    unfold bd4
    generalize sd ww (hh * ww) (bt (mshF (U 119) (hh * ww))) 0 n = a
    generalize sd ww (hh * ww) (bt (mshF (U 119) (hh * ww))) 1 n = b
    generalize sd ww (hh * ww) (bt (mshF (U 119) (hh * ww))) 2 n = c
    generalize sd ww (hh * ww) (bt (mshF (U 119) (hh * ww))) 3 n = d
    have hb := hasM_b (x := mshF (U 119) (hh * ww)) (show n < 32 by omega)
    have la := Bool.toNat_le a
    have lb := Bool.toNat_le b
    have lc := Bool.toNat_le c
    have ld := Bool.toNat_le d
    cases e : bt (mshF (U 119) (hh * ww)) n
    · rw [if_neg (fun z => by rw [hb, e] at z; cases z), nI_add]
      simp
    · rw [if_pos (hb.mpr e), pk_sub (by omega), nI_add]
      apply congrArg nI
      cases a <;> cases b <;> cases c <;> cases d <;> simp <;> omega
theorem border_eq {T U : Sto} {pp hh ww nl nc nf : Nat} (hP : PLR T pp U hh ww nl nc nf) (h0 : 0 < hh) : bdF T pp (mshF (U 119) (hh * ww)) 4 = mbdF U (hh * ww) (hh * ww) := by
  have hw : 2 ≤ ww := by have := hP.2.2.1; omega
  have hn := hP.n25
  rw [mbd_n hP.2.2.2.1.2.1 hw hn hP.2.1.2.1 _ (Nat.le_refl _)]
  have hm := msh_sub (f := U 119) hn
  show (((nI 0 + bcF (mshF (U 119) (hh * ww) &&& (besF T pp (mshF (U 119) (hh * ww)) (nI 0) ^^^ (-1)))) + bcF (mshF (U 119) (hh * ww) &&& (besF T pp (mshF (U 119) (hh * ww)) (nI 1) ^^^ (-1)))) + bcF (mshF (U 119) (hh * ww) &&& (besF T pp (mshF (U 119) (hh * ww)) (nI 2) ^^^ (-1)))) + bcF (mshF (U 119) (hh * ww) &&& (besF T pp (mshF (U 119) (hh * ww)) (nI 3) ^^^ (-1))) = _
  rw [bd_side hP h0 hm (by omega), bd_side hP h0 hm (by omega), bd_side hP h0 hm (by omega), bd_side hP h0 hm (by omega), nI_add, nI_add, nI_add, nI_add]
  apply congrArg nI
  unfold bd4
  omega
/-! rows, likenesses -/
theorem row_sub {ww : Nat} (h5 : ww ≤ 5) (x : Int32) : sub ww (x &&& ((nI 1 <<< (nI ww &&& 31)) - nI 1)) := fun k hk => by
  by_cases h : k < 32
  · rw [bt_and, all_b ww (by omega) k h]; simp; omega
  · exact bt_32 (by omega)
theorem full_eq {T U : Sto} {pp hh ww nl nc nf : Nat} (hP : PLR T pp U hh ww nl nc nf) : ∀ n, fuF T pp (mshF (U 119) (hh * ww)) n = mfuF U (hh * ww) n
  | 0 => rfl
  | n + 1 => by
    have e : bcF (inRow T pp (mshF (U 119) (hh * ww)) n) = minR U (hh * ww) n := by
      unfold inRow minR
      rw [hP.1.2.1, hP.2.1.2.1, sub_bc (row_sub hP.2.2.2.1.2.1 _) (by have := hP.2.2.2.1.2.1; omega), Int32.mul_comm]
    unfold fuF mfuF
    rw [full_eq hP n, e]
    by_cases c : minR U (hh * ww) n ≤ (mfuF U (hh * ww) n).2
    · rw [if_pos c, if_pos c, if_pos c]
    · rw [if_neg c, if_neg c, if_neg c]
theorem like_eq {T U : Sto} {pp hh ww nl nc nf : Nat} (hP : PLR T pp U hh ww nl nc nf) {f : Nat} (hf : f < nf) {m : Int32} (hm : sub (hh * ww) m) : likF T pp m (T (pp + 4) f) = mcl U - bitsF (m ^^^ U 118 f) 25 := by
  obtain ⟨e, hs⟩ := hP.2.2.2.2.2 f hf
  unfold likF
  rw [hP.cells, hP.mc, e, sub_bc (sub_xor hm hs) hP.n25]
theorem face_p {T U : Sto} {pp hh ww nl nc nf : Nat} (hP : PLR T pp U hh ww nl nc nf) {f : Nat} (hf : f < nf) : pickF 5 (T (pp + 4)) (nI f) = T (pp + 4) f := pickN (by have := hP.2.2.2.1.2.2.2.2; omega) (by decide)
theorem whom_eq {T U : Sto} {pp hh ww nl nc nf : Nat} (hP : PLR T pp U hh ww nl nc nf) : ∀ n, n ≤ nf → whF T pp (mshF (U 119) (hh * ww)) n = mwhF U (hh * ww) n
  | 0, _ => rfl
  | n + 1, hle => by
    have e : likF T pp (mshF (U 119) (hh * ww)) (pickF 5 (T (pp + 4)) (nI n)) = mlkF U (hh * ww) n := by
      rw [face_p hP (by omega), like_eq hP (by omega) (msh_sub hP.n25)]; rfl
    unfold whF mwhF
    rw [whom_eq hP n (by omega), e]
    by_cases c : mlkF U (hh * ww) n ≤ (mwhF U (hh * ww) n).2
    · rw [if_pos c, if_pos c, if_pos c]
    · rw [if_neg c, if_neg c, if_neg c]
theorem may_eq {T U : Sto} {pp hh ww nl nc nf : Nat} (hP : PLR T pp U hh ww nl nc nf) : ∀ n, n ≤ nf → mbF T pp (mshF (U 119) (hh * ww)) n = mmbF U (hh * ww) n
  | 0, _ => rfl
  | n + 1, hle => by
    unfold mbF mmbF
    rw [may_eq hP n (by omega), face_p hP (by omega), (hP.2.2.2.2.2 n (by omega)).1]
    by_cases c : mshF (U 119) (hh * ww) &&& (U 118 n ^^^ (-1)) = 0
    · rw [if_pos c, if_pos c]
    · rw [if_neg c, if_neg c, or_0]
