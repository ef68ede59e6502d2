/-! sets of cells -/
def sub (nn : Nat) (x : Int32) : Prop := ∀ k, nn ≤ k → bt x k = false
theorem sub_and {nn : Nat} {x y : Int32} (h : sub nn x) : sub nn (x &&& y) := fun k hk => by rw [bt_and, h k hk, Bool.false_and]
theorem sub_xor {nn : Nat} {x y : Int32} (h : sub nn x) (h2 : sub nn y) : sub nn (x ^^^ y) := fun k hk => by rw [bt_xor, h k hk, h2 k hk]; rfl
theorem sub_le {nn mm : Nat} {x : Int32} (h : sub nn x) (hm : nn ≤ mm) : sub mm x := fun k hk => h k (by omega)
theorem sub_bc {nn : Nat} {x : Int32} (h : sub nn x) (hn : nn ≤ 25) : bcF x = bitsF x 25 := bc_bits (fun k hk => h k (by omega))
theorem or_0 (x : Int32) : x ||| nI 0 = x := bt_ext (fun k _ => by rw [bt_or, bt_0, Bool.or_false])
theorem msh_b {f : Nat → Int32} : ∀ n, n ≤ 25 → ∀ k, bt (mshF f n) k = (decide (k < n) && !decide (f k < nI 3))
  | 0, _, k => by show bt (nI 0) k = _; rw [bt_0]; simp
  | n + 1, hn, k => by
    unfold mshF
    rw [bt_or, msh_b n (by omega) k]
    by_cases c : f n < nI 3
    · rw [if_pos c, bt_0]
      by_cases e : k = n
      · subst e; simp [c]
      · have : (k < n + 1) = (k < n) := by apply propext; omega
        simp [this]
    · rw [if_neg c, bt_pow (by omega)]
      by_cases e : k = n
      · subst e; simp [c]
      · have : (k < n + 1) = (k < n) := by apply propext; omega
        simp [this, e]
theorem msh_sub {f : Nat → Int32} {n : Nat} (hn : n ≤ 25) : sub n (mshF f n) := fun k hk => by rw [msh_b n hn k]; simp; omega
theorem marks_m (w : Nat → Int32) : ∀ n, marksF w n = mshF w n
  | 0 => rfl
  | n + 1 => by
    unfold marksF mshF
    rw [marks_m w n]
    by_cases c : w n < nI 3
    · rw [if_pos c, if_pos c, or_0]
    · rw [if_neg c, if_neg c]
theorem marks_eq {w f : Nat → Int32} {nn : Nat} (hn : nn ≤ 25) (h1 : ∀ x, x < nn → w x = f x) (h2 : ∀ x, nn ≤ x → x < 25 → w x = nI 0) : marksF w 25 = mshF f nn := by
  rw [marks_m]
  apply bt_ext
  intro k _
  rw [msh_b 25 (by omega), msh_b nn hn]
  by_cases c : k < nn
  · rw [h1 k c]; simp [c, show k < 25 by omega]
  · by_cases c2 : k < 25
    · rw [h2 k (by omega) c2]
      simp [c]
      intro _
      decide
    · simp [c, c2]
theorem DM.marks {T : Sto} {dd nn nl : Nat} {f : Nat → Int32} (h : DM T dd f nn nl) (hn : nn ≤ 25) : marksF (T (dd + 1)) 25 = mshF f nn := marks_eq hn (fun x hx => (h.1 x hx).1) h.2.1
theorem wet_c {f g : Nat → Int32} : ∀ n, (∀ x, x < n → f x = g x) → wetF f n = wetF g n
  | 0, _ => rfl
  | n + 1, h => by unfold wetF; rw [wet_c n (fun x hx => h x (by omega)), h n (by omega)]
theorem wet_z {f : Nat → Int32} {n : Nat} : ∀ m, (∀ x, n ≤ x → x < n + m → f x = nI 0) → wetF f (n + m) = wetF f n
  | 0, _ => rfl
  | m + 1, h => by
    show wetF f (n + m) + f (n + m) = _
    rw [wet_z m (fun x h1 h2 => h x h1 (by omega)), h (n + m) (by omega) (by omega)]
    exact Int32.add_zero _
theorem DM.wet {T : Sto} {dd nn nl : Nat} {f : Nat → Int32} (h : DM T dd f nn nl) (hn : nn ≤ 25) : wetF (T (dd + 1)) 25 = wetF f nn := by
  have := wet_z (f := T (dd + 1)) (n := nn) (25 - nn) (fun x h1 h2 => h.2.1 x h1 (by omega))
  rw [show nn + (25 - nn) = 25 by omega] at this
  rw [this]
  exact wet_c nn (fun x hx => (h.1 x hx).1)
/-! the neighbours -/
theorem all_b : ∀ nn, nn ≤ 25 → ∀ k, k < 32 → bt ((nI 1 <<< (nI nn &&& 31)) - nI 1) k = decide (k < nn) := by decide +kernel
theorem fc_b : ∀ hh, hh ≤ 5 → ∀ ww, ww ≤ 5 → 0 < ww → ∀ k, k < 32 → bt (fcF (nI ww) hh) k = (decide (k < hh * ww) && decide (k % ww = 0)) := by decide +kernel
def nb (ww x y : Nat) : Bool := decide (y = x + ww) || (decide (y + ww = x) || ((decide (y = x + 1) && !decide (y % ww = 0)) || (decide (y + 1 = x) && !decide (x % ww = 0))))
theorem nx_nb : ∀ ww, ww ≤ 5 → 2 ≤ ww → ∀ x, x < 25 → ∀ y, y < 25 → decide (nxP (nI x) (nI y) (nI ww)) = nb ww x y := by decide +kernel
theorem ar_b {ww x : Nat} (h5 : ww ≤ 5) (h2 : 2 ≤ ww) (hx : x < 25) : ∀ n, n ≤ 25 → ∀ y, bt (arF (nI ww) (nI x) n) y = (decide (y < n) && nb ww x y)
  | 0, _, y => by show bt (nI 0) y = _; rw [bt_0]; simp
  | n + 1, hn, y => by
    unfold arF
    rw [bt_or, ar_b h5 h2 hx n (by omega) y]
    have e := nx_nb ww h5 h2 x hx n (by omega)
    by_cases c : nxP (nI x) (nI n) (nI ww)
    · rw [if_pos c, bt_pow (by omega)]
      rw [decide_eq_true c] at e
      by_cases q : y = n
      · subst q; simp [← e]
      · have : (y < n + 1) = (y < n) := by apply propext; omega
        simp [this, q]
    · rw [if_neg c, bt_0]
      rw [decide_eq_false c] at e
      by_cases q : y = n
      · subst q; simp [← e]
      · have : (y < n + 1) = (y < n) := by apply propext; omega
        simp [this]
/-- on which side a cell of the set lies -/
def sd (ww nn : Nat) (m : Nat → Bool) (i k : Nat) : Bool := if i = 0 then decide (k < nn) && (decide (ww ≤ k) && m (k - ww)) else if i = 1 then m (k + ww) else if i = 2 then decide (k < nn) && (decide (1 ≤ k) && (!decide (k % ww = 0) && m (k - 1))) else !decide ((k + 1) % ww = 0) && m (k + 1)
theorem bes_b {T U : Sto} {pp hh ww nl nc nf : Nat} (hP : PLR T pp U hh ww nl nc nf) (h0 : 0 < hh) {g : Int32} (hg : sub (hh * ww) g) {i k : Nat} (hi : i < 4) (hk : k < 32) : bt (besF T pp g (nI i)) k = sd ww (hh * ww) (bt g) i k := by
  obtain ⟨⟨t4, t5, t6, -⟩, -, hor, ⟨hh5, hw5, -⟩, -⟩ := id hP
  have hn := hP.n25
  have hw : 2 ≤ ww := by omega
  have ea : ∀ k, k < 32 → bt (plAll T pp) k = decide (k < hh * ww) := fun k hk => by
    rw [hP.all]
    exact all_b _ hn k hk
  have ef : ∀ k, k < 32 → bt (T pp 6 ^^^ (-1)) k = !(decide (k < hh * ww) && decide (k % ww = 0)) := fun k hk => by
    rw [bt_not hk, t6, fc_b hh hh5 ww hw5 (by omega) k hk]
  have g31 : bt g 31 = false := hg 31 (by omega)
  unfold besF sd
  rcases (show i = 0 ∨ i = 1 ∨ i = 2 ∨ i = 3 by omega) with rfl | rfl | rfl | rfl
  · rw [if_pos rfl, if_pos rfl, bt_and, t5, bt_shl (by omega), ea k hk]
    by_cases c : ww ≤ k
    · simp [c, hk, show ¬ k < ww by omega, Bool.and_comm]
    · simp [c, show k < ww by omega]
  · rw [if_neg n10, if_pos rfl, if_neg (by decide), if_pos rfl, t5, bt_shr2 (by omega) g31, Nat.add_comm]
  · rw [if_neg n20, if_neg n21, if_pos rfl, if_neg (by decide), if_neg (by decide), if_pos rfl, bt_and, bt_and, bt_shl (by omega), ea k hk, ef k hk]
    by_cases c : 1 ≤ k
    · by_cases c2 : k < hh * ww
      · simp [c, c2, hk, show ¬ k < 1 by omega, Bool.and_comm]
      · simp [c2]
    · simp [c, show k < 1 by omega]
  · rw [if_neg n30, if_neg n31, if_neg n32, if_neg (by decide), if_neg (by decide), if_neg (by decide)]
    rw [bt_shr2 (by omega) (by rw [bt_and, g31, Bool.false_and]), bt_and, Nat.add_comm]
    by_cases c : k + 1 < hh * ww
    · rw [ef (k + 1) (by omega)]
      simp [c, Bool.and_comm]
    · rw [hg (k + 1) (by omega)]
      simp
def exB (p : Nat → Bool) : Nat → Bool
  | 0 => false
  | n + 1 => exB p n || p n
theorem exB_i {p : Nat → Bool} : ∀ n, exB p n = true ↔ ∃ y, y < n ∧ p y = true
  | 0 => by simp [exB]
  | n + 1 => by
    unfold exB
    rw [Bool.or_eq_true, exB_i n]
    constructor
    · rintro (⟨y, hy, e⟩ | e)
      · exact ⟨y, by omega, e⟩
      · exact ⟨n, by omega, e⟩
    · rintro ⟨y, hy, e⟩
      by_cases c : y = n
      · subst c; exact Or.inr e
      · exact Or.inl ⟨y, by omega, e⟩
theorem sd_iff {ww hh : Nat} (hw : 2 ≤ ww) {m : Nat → Bool} (hm : ∀ k, hh * ww ≤ k → m k = false) {k : Nat} (hk : k < hh * ww) : (sd ww (hh * ww) m 0 k || (sd ww (hh * ww) m 1 k || (sd ww (hh * ww) m 2 k || sd ww (hh * ww) m 3 k))) = exB (fun y => m y && nb ww y k) (hh * ww) := by
  rw [Bool.eq_iff_iff, exB_i]
  have lt : ∀ y, m y = true → y < hh * ww := fun y h => by
    rcases Nat.lt_or_ge y (hh * ww) with q | q
    · exact q
    · rw [hm y q] at h; cases h
  unfold sd nb
  simp only [if_true, Nat.one_ne_zero, if_false, Bool.or_eq_true, Bool.and_eq_true, decide_eq_true_eq, Bool.not_eq_true', decide_eq_false_iff_not, show ¬ (2 = 0) by decide, show ¬ (2 = 1) by decide, show ¬ (3 = 0) by decide, show ¬ (3 = 1) by decide, show ¬ (3 = 2) by decide]
  constructor
  · rintro (⟨_, h1, h2⟩ | h | ⟨_, h1, h3, h2⟩ | ⟨h1, h2⟩)
    · exact ⟨k - ww, lt _ h2, h2, Or.inl (by omega)⟩
    · exact ⟨k + ww, lt _ h, h, Or.inr (Or.inl rfl)⟩
    · exact ⟨k - 1, lt _ h2, h2, Or.inr (Or.inr (Or.inl ⟨by omega, h3⟩))⟩
    · exact ⟨k + 1, lt _ h2, h2, Or.inr (Or.inr (Or.inr ⟨rfl, h1⟩))⟩
  · rintro ⟨y, hy, hmy, (h | h | ⟨h, h2⟩ | ⟨h, h2⟩)⟩
    · exact Or.inl ⟨hk, by omega, by rw [show k - ww = y by omega]; exact hmy⟩
    · exact Or.inr (Or.inl (by rw [h]; exact hmy))
    · exact Or.inr (Or.inr (Or.inl ⟨hk, by omega, h2, by rw [show k - 1 = y by omega]; exact hmy⟩))
    · exact Or.inr (Or.inr (Or.inr ⟨by rw [h]; exact h2, by rw [h]; exact hmy⟩))
/-! groups -/
theorem gr4_b {T U : Sto} {pp hh ww nl nc nf : Nat} (hP : PLR T pp U hh ww nl nc nf) (h0 : 0 < hh) {m g : Int32} (hm : sub (hh * ww) m) (hg : sub (hh * ww) g) {k : Nat} (hk : k < 32) : bt (grF T pp m g 4) k = (bt g k || (bt m k && exB (fun y => bt g y && nb ww y k) (hh * ww))) := by
  have hw : 2 ≤ ww := by have := hP.2.2.1; omega
  show bt ((((g ||| (besF T pp g (nI 0) &&& m)) ||| (besF T pp g (nI 1) &&& m)) ||| (besF T pp g (nI 2) &&& m)) ||| (besF T pp g (nI 3) &&& m)) k = _
  simp only [bt_or, bt_and]
  rw [bes_b hP h0 hg (by omega) hk, bes_b hP h0 hg (by omega) hk, bes_b hP h0 hg (by omega) hk, bes_b hP h0 hg (by omega) hk]
  by_cases c : k < hh * ww
  · rw [← sd_iff hw hg c]
    cases bt g k <;> cases bt m k <;> simp [Bool.or_assoc]
  · rw [hm k (by omega)]
    simp
theorem mgr_b {U : Sto} {ww nn : Nat} (h5 : ww ≤ 5) (h2 : 2 ≤ ww) (hn : nn ≤ 25) (e1 : U 114 1 = nI ww) {g : Int32} {k : Nat} (hk : k < 32) : ∀ n, n ≤ nn → bt (mgrF U nn g n) k = (bt g k || (bt (mshF (U 119) nn) k && exB (fun y => bt g y && nb ww y k) n))
  | 0, _ => by show bt g k = _; simp [exB]
  | n + 1, hle => by
    unfold mgrF exB
    rw [bt_or, mgr_b h5 h2 hn e1 hk n (by omega)]
    by_cases c : bt g n = true
    · rw [if_pos ((hasM_b (by omega)).mpr c), bt_and, e1, ar_b h5 h2 (by omega) nn hn]
      by_cases c2 : k < nn
      · simp only [c, c2, decide_true, Bool.true_and]
        cases bt g k <;> cases bt (mshF (U 119) nn) k <;> simp
      · have := msh_sub (f := U 119) hn k (by omega)
        rw [this]; simp
    · rw [if_neg (fun z => c ((hasM_b (by omega)).mp z)), bt_0]
      simp only [Bool.not_eq_true] at c
      simp [c]
theorem gr_eq {T U : Sto} {pp hh ww nl nc nf : Nat} (hP : PLR T pp U hh ww nl nc nf) (h0 : 0 < hh) {g : Int32} (hg : sub (hh * ww) g) : grF T pp (mshF (U 119) (hh * ww)) g 4 = mgrF U (hh * ww) g (hh * ww) := bt_ext (fun k hk => by
  have hw : 2 ≤ ww := by have := hP.2.2.1; omega
  rw [gr4_b hP h0 (msh_sub hP.n25) hg hk, mgr_b hP.2.2.2.1.2.1 hw hP.n25 hP.2.1.2.1 hk _ (Nat.le_refl _)])
theorem gr_sub {T U : Sto} {pp hh ww nl nc nf : Nat} (hP : PLR T pp U hh ww nl nc nf) (h0 : 0 < hh) {g : Int32} (hg : sub (hh * ww) g) : sub (hh * ww) (mgrF U (hh * ww) g (hh * ww)) := fun k hk => by
  have hw : 2 ≤ ww := by have := hP.2.2.1; omega
  by_cases h : k < 32
  · rw [mgr_b hP.2.2.2.1.2.1 hw hP.n25 hP.2.1.2.1 h _ (Nat.le_refl _), hg k hk, msh_sub hP.n25 k hk]; simp
  · exact bt_32 (by omega)
theorem gp_it {T U : Sto} {pp hh ww nl nc nf : Nat} (hP : PLR T pp U hh ww nl nc nf) (h0 : 0 < hh) (x : Int32) : ∀ n j, sub (hh * ww) (mgpF U (hh * ww) x j) → gpF T pp (mshF (U 119) (hh * ww)) n (mgpF U (hh * ww) x j) = mgpF U (hh * ww) x (j + n)
  | 0, j, _ => rfl
  | n + 1, j, hg => by
    unfold gpF
    rw [gr_eq hP h0 hg]
    have hs : mgrF U (hh * ww) (mgpF U (hh * ww) x j) (hh * ww) = mgpF U (hh * ww) x (j + 1) := rfl
    by_cases c : mgrF U (hh * ww) (mgpF U (hh * ww) x j) (hh * ww) = mgpF U (hh * ww) x j
    · rw [if_pos c]
      have st : ∀ i, mgpF U (hh * ww) x (j + i) = mgpF U (hh * ww) x j := fun i => by
        induction i with
        | zero => rfl
        | succ i ih =>
          show mgrF U (hh * ww) (mgpF U (hh * ww) x (j + i)) (hh * ww) = _
          rw [ih, c]
      exact (st (n + 1)).symm
    · rw [if_neg c, hs, gp_it hP h0 x n (j + 1) (by rw [← hs]; exact gr_sub hP h0 hg)]
      rw [show j + 1 + n = j + (n + 1) by omega]
theorem pow_sub {nn x : Nat} (hn : nn ≤ 25) (hx : x < nn) : sub nn (nI 1 <<< (nI x &&& 31)) := fun k hk => by rw [bt_pow (by omega)]; simp; omega
theorem mgp_sub {T U : Sto} {pp hh ww nl nc nf : Nat} (hP : PLR T pp U hh ww nl nc nf) (h0 : 0 < hh) {x : Nat} (hx : x < hh * ww) : ∀ j, sub (hh * ww) (mgpF U (hh * ww) (nI x) j)
  | 0 => pow_sub hP.n25 hx
  | j + 1 => gr_sub hP h0 (mgp_sub hP h0 hx j)
theorem grp_eq {T U : Sto} {pp hh ww nl nc nf : Nat} (hP : PLR T pp U hh ww nl nc nf) (h0 : 0 < hh) {x : Nat} (hx : x < hh * ww) : grpF T pp (mshF (U 119) (hh * ww)) (nI x) = mgpF U (hh * ww) (nI x) 25 := by
  have := gp_it hP h0 (nI x) 25 0 (pow_sub hP.n25 hx)
  rw [Nat.zero_add] at this
  exact this
theorem groups_eq {T U : Sto} {pp hh ww nl nc nf : Nat} (hP : PLR T pp U hh ww nl nc nf) : ∀ n, n ≤ hh * ww →
    (gsF T pp (mshF (U 119) (hh * ww)) n).1 = (mgsF U (hh * ww) n).1 ∧ (gsF T pp (mshF (U 119) (hh * ww)) n).2 = (mgsF U (hh * ww) n).2.1 ∧ (ggF T pp (mshF (U 119) (hh * ww)) n).1 = (mgsF U (hh * ww) n).1 ∧ (ggF T pp (mshF (U 119) (hh * ww)) n).2 = (mgsF U (hh * ww) n).2.2 ∧ sub (hh * ww) (mgsF U (hh * ww) n).2.2
  | 0, _ => ⟨rfl, rfl, rfl, rfl, fun k _ => bt_0 k⟩
  | n + 1, hle => by
    have hn := hP.n25
    obtain ⟨a, b, c, d, e⟩ := groups_eq hP n (by omega)
    have h0 : 0 < hh := by
      rcases Nat.eq_zero_or_pos hh with q | q
      · rw [q, Nat.zero_mul] at hle; omega
      · exact q
    have eg := grp_eq hP h0 (show n < hh * ww by omega)
    have es := mgp_sub hP h0 (show n < hh * ww by omega) 25
    unfold gsF ggF mgsF
    rw [a, c, eg, b, d, sub_bc es hn, sub_bc e hn]
    by_cases h : hasM (mgsF U (hh * ww) n).1 (nI n)
    · have h' := (has_bit (show n < 32 by omega)).mp h
      rw [if_pos h, if_pos h', if_pos h']
      refine ⟨rfl, rfl, rfl, rfl, ?_⟩
      show sub _ (if _ then _ else _)
      split
      · exact e
      · exact es
    · have h' := fun z => h ((has_bit (show n < 32 by omega)).mpr z)
      rw [if_neg h, if_neg h', if_neg h']
      exact ⟨a, b, c, d, e⟩
