/-! the class's day and the model's, as gives -/
theorem rdF_c {S T : Sto} {pp : Nat} (h : T pp = S pp) (wd : Int32) (ah : Nat → Int32) (p : Pr2) : ∀ i, rdF T pp wd ah p i = rdF S pp wd ah p i
  | 0 => rfl
  | i + 1 => by
    unfold rdF
    rw [rdF_c h wd ah p i, plBelow_c h, plBeside_c h]
theorem rcF_c {S T : Sto} {pp : Nat} (h2 : T (pp + 2) = S (pp + 2)) (h3 : T (pp + 3) = S (pp + 3)) (fl : Int32) (ah : Nat → Int32) (p : Pr2) : ∀ i, rcF T pp fl ah p i = rcF S pp fl ah p i
  | 0 => rfl
  | i + 1 => by
    unfold rcF
    rw [rcF_c h2 h3 fl ah p i, h2, h3]
theorem col_n {S : Sto} {pp ww x : Nat} (h5 : S pp 5 = nI ww) (hw : 0 < ww) (hw5 : ww ≤ 5) (hx : x < 25) : plCol S pp (nI x) = nI (x % ww) := by
  unfold plCol
  rw [h5, if_neg (nI_nle hw (by omega)), pk_rem (by omega) hw (by omega)]
theorem mod_s {x ww : Nat} (hw : 0 < ww) : x % ww < ww := Nat.mod_lt _ hw
theorem m1_ne {b : Nat} (h : b < 2 ^ 31) : ¬ nI b = -1 := fun q => absurd (congrArg (fun x => decide (x < (0 : Int32))) q) (by
    show ¬ decide (nI b < 0) = decide ((-1 : Int32) < 0)
    rw [decide_eq_false (nI_pos h)]
    decide)
theorem n12 : ¬ nI 1 = nI 2 := by decide
theorem rd_step {S : Sto} {pp hh ww nn x : Nat} {wd : Int32} {ah : Nat → Int32} (hpc : plCells S pp = nI nn) (h5 : S pp 5 = nI ww) (hw : 0 < ww) (hw5 : ww ≤ 5) (hnn : nn = hh * ww) (hn : nn ≤ 25) (hz : ∀ x, nn ≤ x → x < 25 → ah x = nI 0) (hx : x < 25) (q : Pr2) :
    (if ah x < nI 4 then (if ah x < nI 2 then q else g2F q (nI x) (plBelow S pp (nI x))) else g2F (if ah x < nI 2 then q else g2F q (nI x) (plBelow S pp (nI x))) (nI x) (plBeside S pp (nI x) wd)) = gfo (dnL nn ww ah x ++ wdL ww wd ah x) q := by
  by_cases hxn : x < nn
  · have e1 : (if ah x < nI 2 then q else g2F q (nI x) (plBelow S pp (nI x))) = gfo (dnL nn ww ah x) q := by
      unfold dnL
      by_cases h2 : ah x < nI 2
      · rw [if_pos h2, if_pos (Or.inl h2)]; rfl
      · rw [if_neg h2]
        unfold plBelow
        rw [hpc, h5, nI_add]
        by_cases h3 : nn ≤ x + ww
        · rw [if_pos (nI_le h3 (by omega)), if_pos (Or.inr h3), g2_m1]; rfl
        · rw [if_neg (nI_ge (by omega) (by omega)), if_neg (fun z => z.elim h2 h3), g2_n hx (by omega)]; rfl
    rw [e1, gfo_app]
    generalize gfo (dnL nn ww ah x) q = q'
    unfold wdL
    by_cases h4 : ah x < nI 4
    · rw [if_pos h4, if_pos h4]; rfl
    · rw [if_neg h4, if_neg h4]
      unfold plBeside
      rw [col_n h5 hw hw5 hx, h5]
      have hm := mod_s (x := x) hw
      by_cases w1 : wd = nI 1
      · subst w1
        rw [if_pos rfl]
        by_cases c : 0 < x % ww
        · rw [if_neg (nI_nle c (by omega)), if_pos ⟨rfl, c⟩]
          have x0 : x ≠ 0 := fun z => by subst z; simp at c
          rw [nI_dec x0, g2_n hx (by omega)]; rfl
        · rw [show x % ww = 0 by omega, if_pos (show nI 0 ≤ 0 by decide), if_neg (fun z => absurd z.2 (by omega)), if_neg (fun z => n12 z.1), g2_m1]; rfl
      · rw [if_neg w1, if_neg (show ¬ (wd = nI 1 ∧ 0 < x % ww) from fun z => w1 z.1)]
        by_cases w2 : wd = nI 2
        · subst w2
          rw [if_pos rfl, nI_add]
          by_cases c : x % ww + 1 < ww
          · rw [if_neg (nI_ge c (by omega)), if_pos ⟨rfl, c⟩, nI_add]
            have := nx_lt (hh := hh) (by rw [← hnn]; exact hxn) c
            rw [g2_n hx (by omega)]; rfl
          · rw [if_pos (nI_le (by omega) (by have := mod_s (x := x) hw; omega)), if_neg (fun z => c z.2), g2_m1]; rfl
        · rw [if_neg w2, if_neg (show ¬ (wd = nI 2 ∧ x % ww + 1 < ww) from fun z => w2 z.1), g2_m1]; rfl
  · have := hz x (by omega) hx
    unfold dnL wdL
    rw [this, if_pos (by decide), if_pos (by decide), if_pos (Or.inl (by decide)), if_pos (by decide)]; rfl
theorem rd_list {S : Sto} {pp hh ww nn : Nat} {wd : Int32} {ah : Nat → Int32} (hpc : plCells S pp = nI nn) (h5 : S pp 5 = nI ww) (hw : 0 < ww) (hw5 : ww ≤ 5) (hnn : nn = hh * ww) (hn : nn ≤ 25) (hz : ∀ x, nn ≤ x → x < 25 → ah x = nI 0) (p : Pr2) : ∀ i, i ≤ 25 → rdF S pp wd ah p i = gfo ((List.range i).flatMap (fun x => dnL nn ww ah x ++ wdL ww wd ah x)) p
  | 0, _ => rfl
  | i + 1, hi => by
    unfold rdF
    rw [rd_list hpc h5 hw hw5 hnn hn hz p i (by omega), List.range_succ, List.flatMap_append, gfo_app, List.flatMap_cons, List.flatMap_nil, List.append_nil]
    exact rd_step hpc h5 hw hw5 hnn hn hz (by omega) _
theorem rc_list {S : Sto} {pp nc : Nat} {fl : Int32} {ah : Nat → Int32} {A B : Nat → Nat} (h : ∀ c, c < nc → A c < 25 ∧ B c < 25 ∧ S (pp + 2) c = nI (A c) ∧ S (pp + 3) c = nI (B c)) (h6 : nc ≤ 6) (p : Pr2) : ∀ c, c ≤ nc → rcF S pp fl ah p c = gfo ((List.range c).flatMap (crL A B fl ah)) p
  | 0, _ => rfl
  | c + 1, hc => by
    obtain ⟨ha, hb, ea, eb⟩ := h c (by omega)
    unfold rcF
    rw [rc_list h h6 p c (by omega), List.range_succ, List.flatMap_append, gfo_app, List.flatMap_cons, List.flatMap_nil, List.append_nil]
    dsimp only
    rw [pickN (show c < 6 by omega) (by decide), pickN (show c < 6 by omega) (by decide), ea, eb, pickN ha (by decide), pickN hb (by decide)]
    generalize gfo ((List.range c).flatMap (crL A B fl ah)) p = q
    unfold crL
    by_cases h1 : bitP fl (nI c)
    · rw [if_pos h1, if_pos h1]; rfl
    · rw [if_neg h1, if_neg h1]
      by_cases h2 : ah (A c) - ah (B c) < nI 2
      · rw [if_pos h2, if_pos h2]
        by_cases h3 : -2 < ah (A c) - ah (B c)
        · rw [if_pos h3, if_pos h3]; rfl
        · rw [if_neg h3, if_neg h3, g2_n hb ha]; rfl
      · rw [if_neg h2, if_neg h2, g2_n ha hb]; rfl
theorem m1_lt : (-1 : Int32) < 0 := by decide
theorem has_bit {x : Int32} {k : Nat} (hk : k < 32) : hasM x (nI k) ↔ bitP x (nI k) := by rw [hasM_b hk, bitP_b hk]
theorem mr2_list {S : Sto} {hh ww nn x : Nat} {ah : Nat → Int32} (hw : 0 < ww) (hw5 : ww ≤ 5) (hnn : nn = hh * ww) (hn : nn ≤ 25) (hx : x < nn) (hah : S 125 x = ah x) (q : Pr2) : mr2 S nn ww x q = gfo (dnL nn ww ah x ++ wdL ww (S 119 29) ah x) q := by
  have e1 : mr1 S nn ww x q = gfo (dnL nn ww ah x) q := by
    unfold mr1 dnL
    rw [hah, nI_add]
    by_cases h2 : ah x < nI 2
    · rw [if_pos (Or.inr h2), if_pos (Or.inl h2)]; rfl
    · by_cases h3 : nn ≤ x + ww
      · rw [if_pos (Or.inl (nI_le h3 (by omega))), if_pos (Or.inr h3)]; rfl
      · rw [if_neg (fun z => z.elim (nI_ge (by omega) (by omega)) h2), if_neg (fun z => z.elim h2 h3)]; rfl
  unfold mr2
  rw [e1, gfo_app]
  generalize gfo (dnL nn ww ah x) q = q'
  generalize S 119 29 = wd
  unfold wdL bsF
  rw [hah, pk_rem (by omega) hw (by omega), pk_sub (show 1 ≤ ww by omega)]
  have hm := mod_s (x := x) hw
  by_cases h4 : ah x < nI 4
  · rw [if_pos (Or.inr h4), if_pos h4]; rfl
  · rw [if_neg h4]
    by_cases w1 : wd = nI 1 ∧ 0 < x % ww
    · have x0 : x ≠ 0 := fun z => by rw [z] at w1; simp at w1
      rw [if_pos w1, if_pos (⟨w1.1, nI_nle w1.2 (by omega)⟩ : wd = nI 1 ∧ ¬ nI (x % ww) ≤ 0), nI_dec x0, if_neg (fun z => z.elim (nI_pos (by omega)) h4), nI_clamp (by omega)]; rfl
    · have w1' : ¬ (wd = nI 1 ∧ ¬ nI (x % ww) ≤ 0) := fun z => by
        rcases Nat.eq_zero_or_pos (x % ww) with h | h
        · rw [h] at z; exact z.2 (Int32.le_refl _)
        · exact w1 ⟨z.1, h⟩
      rw [if_neg w1, if_neg w1']
      by_cases w2 : wd = nI 2 ∧ x % ww + 1 < ww
      · rw [if_pos w2, if_pos (⟨w2.1, nI_ge (by omega) (by omega)⟩ : wd = nI 2 ∧ ¬ nI (ww - 1) ≤ nI (x % ww)), nI_add, if_neg (fun z => z.elim (nI_pos (by omega)) h4), nI_clamp (by omega)]; rfl
      · have w2' : ¬ (wd = nI 2 ∧ ¬ nI (ww - 1) ≤ nI (x % ww)) := fun z => by
          have := mod_s (x := x) hw
          by_cases c : x % ww + 1 < ww
          · exact w2 ⟨z.1, c⟩
          · exact z.2 (nI_le (by omega) (by omega))
        rw [if_neg w2, if_neg w2', if_pos (Or.inl m1_lt)]; rfl
theorem mr3_list {S : Sto} {hh ww nn nc x : Nat} {ah : Nat → Int32} {A B : Nat → Nat} (hw : 0 < ww) (hw5 : ww ≤ 5) (hnn : nn = hh * ww) (hn : nn ≤ 25) (hx : x < nn) (hah : ∀ x, x < nn → S 125 x = ah x) (h : ∀ c, c < nc → A c < nn ∧ B c < nn ∧ S 116 c = nI (A c) ∧ S 117 c = nI (B c)) (h6 : nc ≤ 6) (q : Pr2) : ∀ c, c ≤ nc → mr3 S nn ww x q c = gfo ((dnL nn ww ah x ++ wdL ww (S 119 29) ah x) ++ (List.range c).flatMap (mcL A B (S 119 30) ah x)) q
  | 0, _ => by
    rw [List.range_zero, List.flatMap_nil, List.append_nil]
    exact mr2_list hw hw5 hnn hn hx (hah x hx) q
  | c + 1, hc => by
    obtain ⟨ha, hb, ea, eb⟩ := h c (by omega)
    unfold mr3
    rw [mr3_list hw hw5 hnn hn hx hah h h6 q c (by omega), List.range_succ, List.flatMap_append, ← List.append_assoc, gfo_app _ (List.flatMap _ [c]), List.flatMap_cons, List.flatMap_nil, List.append_nil]
    generalize gfo (dnL nn ww ah x ++ wdL ww (S 119 29) ah x ++ List.flatMap (mcL A B (S 119 30) ah x) (List.range c)) q = q'
    unfold toF mcL
    rw [ea, eb, hah x hx]
    have hbt := has_bit (x := S 119 30) (show c < 32 by omega)
    by_cases h1 : bitP (S 119 30) (nI c)
    · rw [if_pos (Or.inr (Or.inl (hbt.mpr h1))), if_pos h1]; rfl
    · rw [if_neg h1]
      by_cases a1 : A c = x
      · rw [if_pos a1, if_pos (congrArg nI a1), nI_clamp (by omega), hah _ hb]
        by_cases h2 : ah x < ah (B c) + nI 2
        · rw [if_pos (Or.inr (Or.inr h2)), if_pos h2]; rfl
        · rw [if_neg (fun z => z.elim (nI_pos (by omega)) (fun z => z.elim (fun y => h1 (hbt.mp y)) h2)), if_neg h2]; rfl
      · rw [if_neg a1, if_neg (fun z => a1 ((nI_eq (by omega) (by omega)).mp z))]
        by_cases a2 : B c = x
        · rw [if_pos a2, if_pos (congrArg nI a2), nI_clamp (by omega), hah _ ha]
          by_cases h2 : ah x < ah (A c) + nI 2
          · rw [if_pos (Or.inr (Or.inr h2)), if_pos h2]; rfl
          · rw [if_neg (fun z => z.elim (nI_pos (by omega)) (fun z => z.elim (fun y => h1 (hbt.mp y)) h2)), if_neg h2]; rfl
        · rw [if_neg a2, if_neg (fun z => a2 ((nI_eq (by omega) (by omega)).mp z)), if_pos (Or.inl m1_lt)]; rfl
theorem mrN_list {S : Sto} {hh ww nn nc : Nat} {ah : Nat → Int32} {A B : Nat → Nat} (hw : 0 < ww) (hw5 : ww ≤ 5) (hnn : nn = hh * ww) (hn : nn ≤ 25) (hah : ∀ x, x < nn → S 125 x = ah x) (h : ∀ c, c < nc → A c < nn ∧ B c < nn ∧ S 116 c = nI (A c) ∧ S 117 c = nI (B c)) (h6 : nc ≤ 6) (q : Pr2) : ∀ i, i ≤ nn → mrN S nn ww nc q i = gfo ((List.range i).flatMap (fun x => (dnL nn ww ah x ++ wdL ww (S 119 29) ah x) ++ (List.range nc).flatMap (mcL A B (S 119 30) ah x))) q
  | 0, _ => rfl
  | i + 1, hi => by
    unfold mrN
    rw [mrN_list hw hw5 hnn hn hah h h6 q i (by omega), mr3_list hw hw5 hnn hn (show i < nn by omega) hah h h6 _ nc (Nat.le_refl _), List.range_succ, List.flatMap_append, gfo_app _ (List.flatMap _ [i]), List.flatMap_cons, List.flatMap_nil, List.append_nil]
/-- all gives are between cells -/
theorem gl_in {hh ww nn nc : Nat} {wd fl : Int32} {ah : Nat → Int32} {A B : Nat → Nat} (hnn : nn = hh * ww) (h : ∀ c, c < nc → A c < nn ∧ B c < nn) : ∀ q ∈ (List.range nn).flatMap (fun x => (dnL nn ww ah x ++ wdL ww wd ah x) ++ (List.range nc).flatMap (mcL A B fl ah x)), q.1 < nn ∧ q.2 < nn := by
  intro q hq
  obtain ⟨x, hx, hq⟩ := List.mem_flatMap.mp hq
  have hx := List.mem_range.mp hx
  rcases List.mem_append.mp hq with hq | hq
  · rcases List.mem_append.mp hq with hq | hq
    · unfold dnL at hq
      split at hq
      · cases hq
      · rename_i z
        simp at hq
        subst hq
        exact ⟨hx, by simp only; exact Nat.lt_of_not_le (fun y => z (Or.inr y))⟩
    · unfold wdL at hq
      split at hq
      · cases hq
      · split at hq
        · simp at hq
          subst hq
          exact ⟨hx, by simp only; omega⟩
        · split at hq
          · rename_i z
            simp at hq
            subst hq
            have := nx_lt (hh := hh) (by rw [← hnn]; exact hx) z.2
            exact ⟨hx, by simp only; rw [hnn]; exact this⟩
          · cases hq
  · obtain ⟨c, hc, hq⟩ := List.mem_flatMap.mp hq
    obtain ⟨ha, hb⟩ := h c (List.mem_range.mp hc)
    unfold mcL at hq
    split at hq
    · cases hq
    · split at hq
      · split at hq
        · cases hq
        · simp at hq; subst hq; exact ⟨hx, hb⟩
      · split at hq
        · split at hq
          · cases hq
          · simp at hq; subst hq; exact ⟨hx, ha⟩
        · cases hq
theorem gl_len {nn nc ww : Nat} {wd fl : Int32} {ah : Nat → Int32} {A B : Nat → Nat} (hn : nn ≤ 25) (h6 : nc ≤ 6) : ((List.range nn).flatMap (fun x => (dnL nn ww ah x ++ wdL ww wd ah x) ++ (List.range nc).flatMap (mcL A B fl ah x))).length ≤ 200 := by
  have h1 : ∀ x c, (mcL A B fl ah x c).length ≤ 1 := fun x c => by
    unfold mcL
    split
    · simp
    · split
      · split <;> simp
      · split
        · split <;> simp
        · simp
  have := fm_len (g := fun x => (dnL nn ww ah x ++ wdL ww wd ah x) ++ (List.range nc).flatMap (mcL A B fl ah x)) (k := 8) nn (fun x _ => by
    have a := fm_len (g := mcL A B fl ah x) nc (fun c _ => h1 x c)
    have b : (dnL nn ww ah x).length ≤ 1 := by unfold dnL; split <;> simp
    have c : (wdL ww wd ah x).length ≤ 1 := by
      unfold wdL
      split
      · simp
      · split
        · simp
        · split <;> simp
    show ((dnL nn ww ah x ++ wdL ww wd ah x) ++ (List.range nc).flatMap (mcL A B fl ah x)).length ≤ 8
    rw [List.length_append, List.length_append]
    omega)
  omega
