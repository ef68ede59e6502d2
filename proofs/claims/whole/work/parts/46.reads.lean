/-! a number, a sign, as the class reads it -/
theorem tnQ_f {t : Nat → Int32} {n : Nat} {q : Qr} {lo hi : Int32} (h : ¬ q.1 = 0) : tnQ t n q lo hi = q := by unfold tnQ; rw [if_neg h]
theorem qSign_f {t : Nat → Int32} {n : Nat} {q : Qr} {s : Int32} (h : ¬ q.1 = 0) : qSign t n q s = q := by unfold qSign; rw [if_neg h]
theorem tnQ_s {t : Nat → Int32} {n : Nat} {q : Qr} {lo hi : Int32} (h0 : q.1 = 0) (hn : n ≤ 240) (ha : q.2.2.1 ≤ n) :
    (nmF t n q.2.2.1 lo hi = 0 → tnQ t n q lo hi = (0, q.2.1, nmE t n q.2.2.1, skp t n q.2.2.1, q.2.2.2.2) ∧ tnM t n q = nmV t n q.2.2.1) ∧ (¬ nmF t n q.2.2.1 lo hi = 0 → (tnQ t n q lo hi).1 = nmF t n q.2.2.1 lo hi ∧ (tnQ t n q lo hi).2.1 = nI (skp t n q.2.2.1)) := by
  have hE := nmE_le (t := t) ha
  have l3 := len3 (s := skp t n q.2.2.1) (e := nmE t n q.2.2.1) dge_ge (by omega)
  have eE : dge t n (skp t n q.2.2.1) = nmE t n q.2.2.1 := rfl
  unfold tnQ tnM
  rw [if_pos h0, eE]
  by_cases f : isFg (cur t n (skp t n q.2.2.1))
  · rw [if_pos f, if_pos (show q.1 = 0 ∧ isFg (cur t n (skp t n q.2.2.1)) from ⟨h0, f⟩)]
    by_cases o : nmO t n q.2.2.1 lo hi
    · have em : min (nmE t n q.2.2.1 - skp t n q.2.2.1) 3 = nmE t n q.2.2.1 - skp t n q.2.2.1 := Nat.min_eq_left o.1
      have e0 : nmF t n q.2.2.1 lo hi = 0 := by unfold nmF; rw [if_pos f, if_pos o]
      rw [em]
      have c : ¬ (nI 3 < nI (nmE t n q.2.2.1) - nI (skp t n q.2.2.1) ∨ nI (numV t (skp t n q.2.2.1) (nmE t n q.2.2.1 - skp t n q.2.2.1)) < lo ∨ hi < nI (numV t (skp t n q.2.2.1) (nmE t n q.2.2.1 - skp t n q.2.2.1))) := by
        rintro (z | z | z)
        · exact l3.mpr o.1 z
        · exact le_nlt.mpr o.2.1 z
        · exact le_nlt.mpr o.2.2 z
      rw [if_neg c]
      refine ⟨fun _ => ⟨?_, rfl⟩, fun z => absurd e0 z⟩
      unfold qN
      rw [h0]
    · have e2 : nmF t n q.2.2.1 lo hi = 2 := by unfold nmF; rw [if_pos f, if_neg o]
      have c : (nI 3 < nI (nmE t n q.2.2.1) - nI (skp t n q.2.2.1) ∨ nI (numV t (skp t n q.2.2.1) (min (nmE t n q.2.2.1 - skp t n q.2.2.1) 3)) < lo ∨ hi < nI (numV t (skp t n q.2.2.1) (min (nmE t n q.2.2.1 - skp t n q.2.2.1) 3))) := by
        by_cases l : nmE t n q.2.2.1 - skp t n q.2.2.1 ≤ 3
        · rw [Nat.min_eq_left l]
          by_cases x : lo ≤ nI (nmV t n q.2.2.1)
          · exact Or.inr (Or.inr (le_ngt.mp (fun y => o ⟨l, x, y⟩)))
          · exact Or.inr (Or.inl (le_ngt.mp x))
        · exact Or.inl (Classical.byContradiction (fun y => l (l3.mp y)))
      rw [if_pos c, e2]
      refine ⟨fun z => absurd z (by decide), fun _ => ?_⟩
      unfold qFail qN
      dsimp only
      rw [if_pos h0]
      exact ⟨rfl, rfl⟩
  · have e1 : nmF t n q.2.2.1 lo hi = 1 := by unfold nmF; rw [if_neg f]
    rw [if_neg f, e1]
    refine ⟨fun z => absurd z (by decide), fun _ => ?_⟩
    unfold qFail qSkip qAt
    dsimp only
    rw [if_pos h0]
    exact ⟨rfl, rfl⟩
/-- a body is read: its fault, its place; or where it ends -/
def BR (q qb : Qr) (F P E : Nat) : Prop := (F = 0 → qb.1 = 0 ∧ qb.2.1 = q.2.1 ∧ qb.2.2.1 = E ∧ qb.2.2.2.2 = q.2.2.2.2) ∧ (¬ F = 0 → qb.1 = F ∧ qb.2.1 = nI P)
theorem sg {t : Nat → Int32} {n : Nat} {q qb : Qr} {F P E : Nat} (hb : BR q qb F P E) :
    (F = 0 ∧ cur t n (skp t n E) = nI 59 ∧ okSign t n qb (nI 59) ∧ qSign t n qb (nI 59) = (0, q.2.1, skp t n E + 1, qb.2.2.2.1, q.2.2.2.2)) ∨ (F = 0 ∧ ¬ cur t n (skp t n E) = nI 59 ∧ ¬ okSign t n qb (nI 59) ∧ (qSign t n qb (nI 59)).1 = 1 ∧ (qSign t n qb (nI 59)).2.1 = nI (skp t n E)) ∨ (¬ F = 0 ∧ ¬ okSign t n qb (nI 59) ∧ (qSign t n qb (nI 59)).1 = F ∧ (qSign t n qb (nI 59)).2.1 = nI P) := by
  by_cases f : F = 0
  · obtain ⟨b1, b2, b3, b4⟩ := hb.1 f
    by_cases c : cur t n (skp t n E) = nI 59
    · refine Or.inl ⟨f, c, ⟨b1, by rw [b3]; exact c⟩, ?_⟩
      unfold qSign
      rw [if_pos b1, b3, if_pos c]
      unfold qAt qSkip qAt
      rw [b1, b2, b3, ← b4]
    · refine Or.inr (Or.inl ⟨f, c, fun z => c (by rw [← b3]; exact z.2), ?_⟩)
      unfold qSign
      rw [if_pos b1, b3, if_neg c]
      unfold qFail qSkip qAt
      dsimp only
      rw [if_pos b1, b3]
      exact ⟨rfl, rfl⟩
  · obtain ⟨b1, b2⟩ := hb.2 f
    have x : ¬ qb.1 = 0 := by rw [b1]; exact f
    refine Or.inr (Or.inr ⟨f, fun z => x z.1, ?_⟩)
    rw [qSign_f x]
    exact ⟨b1, b2⟩
theorem br_num {t : Nat → Int32} {n : Nat} {q : Qr} {lo hi : Int32} (h0 : q.1 = 0) (hn : n ≤ 240) (ha : q.2.2.1 ≤ n) : BR q (tnQ t n q lo hi) (nmF t n q.2.2.1 lo hi) (skp t n q.2.2.1) (nmE t n q.2.2.1) := by
  obtain ⟨a, b⟩ := tnQ_s (lo := lo) (hi := hi) (t := t) h0 hn ha
  refine ⟨fun z => ?_, b⟩
  rw [(a z).1]
  exact ⟨rfl, rfl, rfl, rfl⟩
/-- two numbers -/
theorem br_two {t : Nat → Int32} {n : Nat} {q : Qr} {lo hi : Int32} (h0 : q.1 = 0) (hn : n ≤ 240) (ha : q.2.2.1 ≤ n) : BR q (tnQ t n (tnQ t n q lo hi) lo hi) (if nmF t n q.2.2.1 lo hi = 0 then nmF t n (nmE t n q.2.2.1) lo hi else nmF t n q.2.2.1 lo hi) (if nmF t n q.2.2.1 lo hi = 0 then skp t n (nmE t n q.2.2.1) else skp t n q.2.2.1) (nmE t n (nmE t n q.2.2.1)) := by
  obtain ⟨a, b⟩ := tnQ_s (lo := lo) (hi := hi) (t := t) h0 hn ha
  by_cases f : nmF t n q.2.2.1 lo hi = 0
  · rw [if_pos f, if_pos f, (a f).1]
    exact br_num (q := (0, q.2.1, nmE t n q.2.2.1, skp t n q.2.2.1, q.2.2.2.2)) rfl hn (nmE_le ha)
  · rw [if_neg f, if_neg f]
    have x : ¬ (tnQ t n q lo hi).1 = 0 := by rw [(b f).1]; exact f
    rw [tnQ_f x]
    exact ⟨fun z => absurd z f, b⟩
theorem two_v {t : Nat → Int32} {n : Nat} {q : Qr} {lo hi : Int32} (h0 : q.1 = 0) (hn : n ≤ 240) (ha : q.2.2.1 ≤ n) (f : nmF t n q.2.2.1 lo hi = 0) : tnM t n q = nmV t n q.2.2.1 ∧ (tnQ t n q lo hi).1 = 0 ∧ (tnQ t n q lo hi).2.2.1 = nmE t n q.2.2.1 ∧ (nmF t n (nmE t n q.2.2.1) lo hi = 0 → tnM t n (tnQ t n q lo hi) = nmV t n (nmE t n q.2.2.1) ∧ (tnQ t n (tnQ t n q lo hi) lo hi).2.2.2.1 = skp t n (nmE t n q.2.2.1) ∧ (tnQ t n (tnQ t n q lo hi) lo hi).1 = 0) := by
  obtain ⟨a, b⟩ := tnQ_s (lo := lo) (hi := hi) (t := t) h0 hn ha
  rw [(a f).1]
  refine ⟨(a f).2, rfl, rfl, fun f2 => ?_⟩
  obtain ⟨c, d⟩ := tnQ_s (lo := lo) (hi := hi) (t := t) (q := (0, q.2.1, nmE t n q.2.2.1, skp t n q.2.2.1, q.2.2.2.2)) rfl hn (nmE_le ha)
  rw [(c f2).1]
  exact ⟨(c f2).2, rfl, rfl⟩
/-! cells side by side -/
theorem tch_nb : ∀ ww, ww ≤ 5 → 2 ≤ ww → ∀ x, x < 25 → ∀ y, y < 25 → (decide (max x y - min x y = ww) || (decide (max x y - min x y = 1) && decide (min x y % ww + 1 < ww))) = nb ww x y := by decide +kernel
theorem min_n {x y : Nat} (hx : x < 2 ^ 31) (hy : y < 2 ^ 31) : minF (nI x) (nI y) = nI (min x y) := by
  unfold minF
  by_cases c : y < x
  · rw [if_pos (nI_lt c hx), Nat.min_eq_right (by omega)]
  · rw [if_neg (nI_nlt (by omega) hy), Nat.min_eq_left (by omega)]
theorem max_n {x y : Nat} (hx : x < 2 ^ 31) (hy : y < 2 ^ 31) : maxF (nI x) (nI y) = nI (max x y) := by
  unfold maxF
  by_cases c : x < y
  · rw [if_pos (nI_lt c hy), Nat.max_eq_right (by omega)]
  · rw [if_neg (nI_nlt (by omega) hx), Nat.max_eq_left (by omega)]
theorem touch_nx {T : Sto} {sp ww x y : Nat} (h5 : T sp 5 = nI ww) (hw : 2 ≤ ww) (hw5 : ww ≤ 5) (hx : x < 25) (hy : y < 25) : plTouch T sp (nI x) (nI y) ↔ nxP (nI x) (nI y) (nI ww) := by
  have e1 := tch_nb ww hw5 hw x hx y hy
  have e2 := nx_nb ww hw5 hw x hx y hy
  have le : min x y ≤ max x y := by omega
  have m5 : min x y % ww < ww := Nat.mod_lt _ (by omega)
  unfold plTouch
  rw [min_n (by omega) (by omega), max_n (by omega) (by omega), h5, col_n h5 (by omega) hw5 (by omega), pk_sub le, nI_add, nI_eq (by omega) (by omega), nI_eq (by omega) (by omega), nI_leI (by omega) (by omega)]
  rw [← decide_eq_true_iff (p := nxP (nI x) (nI y) (nI ww)), e2, ← e1]
  simp only [Bool.or_eq_true, Bool.and_eq_true, decide_eq_true_eq]
  constructor
  · rintro (h | ⟨h, h2⟩)
    · exact Or.inl h
    · exact Or.inr ⟨h, by omega⟩
  · rintro (h | ⟨h, h2⟩)
    · exact Or.inl h
    · exact Or.inr ⟨h, by omega⟩
theorem crk_td {T U : Sto} {sp : Nat} {a b : Int32} : ∀ k, (∀ c, c < k → T (sp + 2) c = U 122 c ∧ T (sp + 3) c = U 123 c) → crkB T sp a b k = mtdB U a b k
  | 0, _ => rfl
  | k + 1, h => by
    unfold crkB mtdB
    rw [crk_td k (fun c hc => h c (by omega))]
    have e := h k (by omega)
    congr 1
    apply decide_eq_decide.mpr
    unfold plIs mtIs
    rw [e.1, e.2]
theorem nb_ne {ww x y : Nat} (hw : 0 < ww) (h : nb ww x y = true) : x ≠ y := by
  unfold nb at h
  simp only [Bool.or_eq_true, Bool.and_eq_true, decide_eq_true_eq] at h
  omega
/-! a likeness -/
theorem lk_rel {T : Sto} {sp n ww : Nat} {q : Qr} {hi : Int32} (h0 : q.1 = 0) (hn : n ≤ 240) (ha : q.2.2.1 < n) (h5 : T sp 5 = nI ww) (hhi : hi = fcHi T sp) (hf : fcB T sp = false) : ∀ i,
    ((lkU (T 2) n (q.2.2.1 + 1) (nI ww) hi i).1 = 0 → (fcR T sp n q i).2.1 = 0 ∧ (fcR T sp n q i).2.2.1 = q.2.1 ∧ (fcR T sp n q i).2.2.2.1 = (lkU (T 2) n (q.2.2.1 + 1) (nI ww) hi i).2.2.1 ∧ (fcR T sp n q i).2.2.2.2.2 = q.2.2.2.2 ∧ (fcR T sp n q i).1 = (lkU (T 2) n (q.2.2.1 + 1) (nI ww) hi i).2.2.2 ∧ (lkU (T 2) n (q.2.2.1 + 1) (nI ww) hi i).2.2.1 ≤ n) ∧ (¬ (lkU (T 2) n (q.2.2.1 + 1) (nI ww) hi i).1 = 0 → (fcR T sp n q i).2.1 = (lkU (T 2) n (q.2.2.1 + 1) (nI ww) hi i).1 ∧ (fcR T sp n q i).2.2.1 = nI (lkU (T 2) n (q.2.2.1 + 1) (nI ww) hi i).2.1)
  | 0 => by
    refine ⟨fun _ => ?_, fun z => absurd rfl z⟩
    show (qWord q (fcB T sp)).1 = 0 ∧ _
    unfold fcR
    rw [hf, qWord_f]
    exact ⟨h0, rfl, rfl, rfl, rfl, by show q.2.2.1 + 1 ≤ n; omega⟩
  | i + 1 => by
    obtain ⟨A, B⟩ := lk_rel (i := i) h0 hn ha h5 hhi hf
    unfold lkU fcR
    dsimp only
    generalize hr : lkU (T 2) n (q.2.2.1 + 1) (nI ww) hi i = r at A B
    generalize hg : fcR T sp n q i = g at A B
    by_cases c : r.1 = 0
    · obtain ⟨a1, a2, a3, a4, a5, a6⟩ := A c
      rw [if_pos c]
      unfold lkStep
      -- the letter ahead of it
      by_cases s : ¬ i = 0 ∧ ¬ cur (T 2) n (skp (T 2) n r.2.2.1) = nI 44
      · rw [if_pos s, if_neg s.1]
        have e : qSign (T 2) n g.2 (nI 44) = qFail (qSkip (T 2) n g.2) 1 (nI (skp (T 2) n r.2.2.1)) := by
          unfold qSign
          rw [if_pos a1, a3, if_neg s.2]
          unfold qSkip qAt
          rw [a3]
        have e1 : (qFail (qSkip (T 2) n g.2) 1 (nI (skp (T 2) n r.2.2.1))).1 = 1 ∧ (qFail (qSkip (T 2) n g.2) 1 (nI (skp (T 2) n r.2.2.1))).2.1 = nI (skp (T 2) n r.2.2.1) := by
          unfold qFail qSkip qAt
          dsimp only
          rw [if_pos a1]
          exact ⟨rfl, rfl⟩
        rw [e, tnQ_f (by rw [e1.1]; decide)]
        refine ⟨fun z => absurd z Nat.one_ne_zero, fun _ => e1⟩
      · rw [if_neg s]
        have e : ∃ q1 : Qr, (if i = 0 then g.2 else qSign (T 2) n g.2 (nI 44)) = q1 ∧ q1.1 = 0 ∧ q1.2.1 = q.2.1 ∧ q1.2.2.1 = lkB' (T 2) n i r.2.2.1 ∧ q1.2.2.2.2 = q.2.2.2.2 ∧ q1.2.2.1 ≤ n := by
          unfold lkB'
          by_cases z : i = 0
          · rw [if_pos z, if_pos z]
            exact ⟨g.2, rfl, a1, a2, a3, a4, by rw [a3]; exact a6⟩
          · rw [if_neg z, if_neg z]
            have cc : cur (T 2) n (skp (T 2) n r.2.2.1) = nI 44 := Classical.byContradiction (fun y => s ⟨z, y⟩)
            refine ⟨_, rfl, ?_⟩
            unfold qSign
            rw [if_pos a1, a3, if_pos cc]
            unfold qAt qSkip qAt
            dsimp only
            rw [a3]
            exact ⟨a1, a2, rfl, a4, cur44 cc⟩
        obtain ⟨q1, e0, e1, e2, e3, e4, e6⟩ := e
        rw [e0, ← hhi]
        obtain ⟨x, y⟩ := tnQ_s (t := T 2) (lo := nI 0) (hi := hi) e1 hn e6
        rw [e3] at x y
        by_cases f : nmF (T 2) n (lkB' (T 2) n i r.2.2.1) (nI 0) hi = 0
        · rw [if_pos f]
          refine ⟨fun _ => ?_, fun z => absurd rfl z⟩
          rw [(x f).1, (x f).2, e2, e4, a5, h5, Int32.mul_comm]
          exact ⟨rfl, rfl, rfl, rfl, rfl, nmE_le (by rw [← e3]; exact e6)⟩
        · rw [if_neg f]
          exact ⟨fun z => absurd z f, fun _ => y f⟩
    · rw [if_neg c]
      obtain ⟨b1, b2⟩ := B c
      have gz : ¬ g.2.1 = 0 := by rw [b1]; exact c
      have e : (if i = 0 then g.2 else qSign (T 2) n g.2 (nI 44)) = g.2 := by
        split
        · rfl
        · exact qSign_f gz
      rw [e, tnQ_f gz]
      exact ⟨fun z => absurd z c, fun _ => ⟨b1, b2⟩⟩
theorem hi_n : ∀ ww, ww ≤ 5 → (nI 1 <<< (nI ww &&& 31)) - nI 1 = nI (2 ^ ww - 1) := by decide +kernel
theorem lk_sub {t : Nat → Int32} {n a ww : Nat} {hi : Int32} (hw : ww ≤ 5) (hhi : hi = nI (2 ^ ww - 1)) : ∀ i, i ≤ 5 → (lkU t n a (nI ww) hi i).1 = 0 → sub (i * ww) (lkU t n a (nI ww) hi i).2.2.2
  | 0, _, _ => fun k _ => bt_0 k
  | i + 1, h5, h => by
    unfold lkU at h ⊢
    by_cases c : (lkU t n a (nI ww) hi i).1 = 0
    · have ih := lk_sub hw hhi i (by omega) c
      rw [if_pos c] at h ⊢
      generalize lkU t n a (nI ww) hi i = r at c h ih
      unfold lkStep at h ⊢
      by_cases s : ¬ i = 0 ∧ ¬ cur t n (skp t n r.2.2.1) = nI 44
      · rw [if_pos s] at h; exact absurd h Nat.one_ne_zero
      · rw [if_neg s] at h ⊢
        by_cases f : nmF t n (lkB' t n i r.2.2.1) (nI 0) hi = 0
        · rw [if_pos f]
          have o := (nmF_0.mp f).2.2.2
          have iw : i * ww ≤ 20 := (Nat.mul_le_mul (show i ≤ 4 by omega) hw : i * ww ≤ 4 * 5)
          have e5 : 2 ^ ww ≤ 2 ^ 5 := Nat.pow_le_pow_right (by decide) hw
          have vb : nmV t n (lkB' t n i r.2.2.1) < 2 ^ ww := by
            have pos : 0 < 2 ^ ww := Nat.pow_pos (by decide)
            have n3 := (nmF_0.mp f).2.1
            have v3 : nmV t n (lkB' t n i r.2.2.1) < 10 ^ (nmE t n (lkB' t n i r.2.2.1) - skp t n (lkB' t n i r.2.2.1)) := numV_b t _ _
            have v4 : 10 ^ (nmE t n (lkB' t n i r.2.2.1) - skp t n (lkB' t n i r.2.2.1)) ≤ 10 ^ 3 := Nat.pow_le_pow_right (by decide) n3
            rw [hhi] at o
            have := (nI_leI (by omega) (by omega)).mp o
            omega
          intro k hk
          have hk2 : i * ww + ww ≤ k := by rw [Nat.succ_mul] at hk; exact hk
          show bt (r.2.2.2 ||| (nI (nmV t n (lkB' t n i r.2.2.1)) <<< ((nI ww * nI i) &&& 31))) k = false
          rw [bt_or, ih k (by omega), pk_mul, Nat.mul_comm ww i, bt_shl (by omega), bt_nI (by omega), Nat.testBit_lt_two_pow (Nat.lt_of_lt_of_le vb (Nat.pow_le_pow_right (by decide) (by omega)))]
          simp
        · rw [if_neg f] at h; exact absurd h f
    · rw [if_neg c] at h; exact absurd h c
