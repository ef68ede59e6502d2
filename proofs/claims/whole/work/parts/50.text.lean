/-! the whole text -/
theorem rdG_f {sp n : Nat} : ∀ (f : Nat) (T : Sto) (q : Qr), ¬ q.1 = 0 → rdG sp n f T q = (T, q)
  | 0, _, _, _ => rfl
  | f + 1, T, q, h => by unfold rdG; rw [if_neg h]
def RDO (T' : Sto) (sp : Nat) (U' : Sto) (q' : Qr) (V : Int32) : Prop := (q'.1 = 0 ∧ V = nI 0 ∧ q'.2.1 = U' 114 14 ∧ ∃ wt hh ww kl kc kf, RDR T' sp U' wt hh ww kl kc kf) ∨ (¬ q'.1 = 0 ∧ q'.1 ≤ 4 ∧ V = nI q'.1 ∧ q'.2.1 = U' 114 14)
theorem rd_rel {sp n : Nat} (hn : n ≤ 240) (hsp : 2 < sp) {t : Nat → Int32} (hpos : ∀ i, i < n → ∃ c, c ≤ 255 ∧ t i = nI c) : ∀ (f : Nat) (T U : Sto) (q : Qr) (a hh ww kl kc kf : Nat), T 2 = t → U 120 = t → RDR T sp U q.2.2.2.2 hh ww kl kc kf → q.1 = 0 → q.2.2.1 = a → a ≤ n → n ≤ a + f → U 114 13 = nI n → U 114 15 = nI a → q.2.1 = U 114 14 →
    RDO (rdG sp n f T q).1 sp (mwG n (f + 1) U (nI 0)).2 (rdG sp n f T q).2 (mwG n (f + 1) U (nI 0)).1 := by
  intro f
  induction f with
  | zero =>
    intro T U q a hh ww kl kc kf hT hU hR h0 ha han hle h13 h15 h14
    have hW := hR.wi h13 h15 han
    have ec : mwC U n = -1 := by
      rw [mw_C hn hW]
      have : a ≤ skp (U 120) n a := skp_ge
      exact if_neg (by omega)
    have em : mwG n (0 + 1) U (nI 0) = (nI 0, mwT U n) := by
      unfold mwG
      rw [if_pos (show nI 0 = 0 by decide), ec, if_pos m1_lt]
    rw [em]
    refine Or.inl ⟨h0, rfl, ?_, q.2.2.2.2, hh, ww, kl, kc, kf, ?_⟩
    · show q.2.1 = mwT U n 114 14
      unfold mwT
      rw [up114b (by omega)]
      exact h14
    · show RDR T sp (mwT U n) _ _ _ _ _ _
      unfold mwT
      exact hR.cU (fun k hk => up114b (by omega)) (fun i h1 h2 => up2_ne _ _ _ (by omega))
  | succ f ih =>
    intro T U q a hh ww kl kc kf hT hU hR h0 ha han hle h13 h15 h14
    have hW := hR.wi h13 h15 han
    have eC := mw_C hn hW
    have eT := mw_T hn hW
    have ls : skp (U 120) n a ≤ n := skp_le han
    have lg : a ≤ skp (U 120) n a := skp_ge
    have rT : RDR T sp (mwT U n) q.2.2.2.2 hh ww kl kc kf := by
      unfold mwT
      exact hR.cU (fun k hk => up114b (by omega)) (fun i h1 h2 => up2_ne _ _ _ (by omega))
    have t14 : mwT U n 114 14 = U 114 14 := by unfold mwT; rw [up114b (by omega)]
    have t13 : mwT U n 114 13 = nI n := by unfold mwT; rw [up114b (by omega)]; exact h13
    have t20 : mwT U n 120 = U 120 := by unfold mwT; rw [up2_ne _ _ _ (by omega)]
    have t15 : mwT U n 114 15 = nI (skp (U 120) n a) := by rw [eT, up2_same, pk_us]
    by_cases c : cur (U 120) n (skp (U 120) n a) = -1
    · have e1 : rdG sp n (f + 1) T q = (T, qSkip (T 2) n q) := by
        unfold rdG
        rw [if_pos h0, hT, ha, ← hU, if_pos c]
      have e2 : mwG n (f + 1 + 1) U (nI 0) = (nI 0, mwT U n) := by
        unfold mwG
        rw [if_pos (show nI 0 = 0 by decide), eC, c, if_pos m1_lt]
      rw [e1, e2]
      refine Or.inl ⟨h0, rfl, ?_, q.2.2.2.2, hh, ww, kl, kc, kf, rT⟩
      show q.2.1 = mwT U n 114 14
      rw [t14]
      exact h14
    · have ls2 : skp (U 120) n a < n := Nat.lt_of_not_le (fun z => c (if_neg (by omega)))
      have c' : ¬ mwC U n < 0 := by
        rw [eC]
        unfold cur
        rw [if_pos ls2, hU]
        obtain ⟨x, hx, e⟩ := hpos _ (hU ▸ ls2)
        rw [e]
        exact nI_pos (by omega)
      have nk : ncN T sp = kc := by unfold ncN; rw [hR.1.2.2.2.2.2.1, nI_clamp (by have := hR.2.2.2.1.2.2.2.1; omega)]
      have e1 : rdG sp n (f + 1) T q = rdG sp n f (clR T sp n kc (qSkip (T 2) n q)).1 (clR T sp n kc (qSkip (T 2) n q)).2 := by
        show (if q.1 = 0 then _ else _) = _
        rw [if_pos h0, hT, ha, ← hU, if_neg c, nk]
      have hW2 := rT.wi t13 t15 ls
      have e2 : mwG n (f + 1 + 1) U (nI 0) = mwG n (f + 1) (mqS (mwT U n) n (skp (U 120) n a) kl kc kf hh) (mqV (mwT U n) n (skp (U 120) n a) kl kc kf hh) := by
        show (if nI 0 = 0 then _ else _) = _
        rw [if_pos (show nI 0 = 0 by decide), if_neg c', mw_V hn hW2, mw_S hn hW2]
      rw [e1, e2]
      have c2 : ¬ cur (mwT U n 120) n (skp (mwT U n 120) n (skp (U 120) n a)) = -1 := by
        rw [t20]
        have fixd : skp (U 120) n (skp (U 120) n a) = skp (U 120) n a := by
          have st : ∀ (f b : Nat), n - b ≤ f → b ≤ n → ¬ (sk (U 120) n f b < n ∧ U 120 (sk (U 120) n f b) = nI 32) := fun f => by
            induction f with
            | zero => intro b h1 h2 z; unfold sk at z; omega
            | succ f ih =>
              intro b h1 h2 z
              unfold sk at z
              by_cases y : b < n ∧ U 120 b = nI 32
              · rw [if_pos y] at z
                exact ih (b + 1) (by omega) (by omega) z
              · rw [if_neg y] at z
                exact y z
          have x := st (n - a) a (Nat.le_refl _) han
          have x2 : ¬ (skp (U 120) n a < n ∧ U 120 (skp (U 120) n a) = nI 32) := x
          generalize skp (U 120) n a = s at x2 ls2
          unfold skp
          have : n - s = (n - s - 1) + 1 := by omega
          rw [this]
          unfold sk
          rw [if_neg x2]
        rw [fixd]
        exact c
      have cl := cl_rel (T := T) (U := mwT U n) (q := qSkip (T 2) n q) (sp := sp) (a := skp (U 120) n a) hn (by rw [hT, t20, hU]) rT h0 (by show skp (T 2) n q.2.2.1 = _; rw [ha, hT, hU]) ls t13 t15 (by rw [t14]; exact h14) c2
      have fr := mq_fr (S := mwT U n) (n := n) (a := skp (U 120) n a) (kl := kl) (kc := kc) (kf := kf) (hh := hh)
      have kT : (clR T sp n kc (qSkip (T 2) n q)).1 2 = T 2 := cl_o (by omega)
      generalize clR T sp n kc (qSkip (T 2) n q) = z at cl kT
      generalize mqS (mwT U n) n (skp (U 120) n a) kl kc kf hh = M at cl fr
      generalize mqV (mwT U n) n (skp (U 120) n a) kl kc kf hh = V at cl
      rcases cl with ⟨x1, x2, x3, x4, x5, x6, hh', ww', kl', kc', kf', x7⟩ | ⟨x1, x2, x3, x4⟩
      · rw [x2]
        exact ih z.1 M z.2 z.2.2.2.1 hh' ww' kl' kc' kf' (by rw [kT]; exact hT) (by rw [fr.1 120 (by omega) (by omega), t20]; exact hU) x7 x1 rfl x5 (by omega) (by rw [fr.2 13 (by omega)]; exact t13) x4 x3
      · rw [rdG_f f _ _ x1, mwG_n (f + 1) M V (by rw [x3, nI_z (by omega)]; exact x1)]
        exact Or.inr ⟨x1, x2, x3, x4⟩
theorem clr_at {S : Sto} {sp : Nat} : clrS S sp sp 4 = nI 0 ∧ clrS S sp sp 5 = nI 0 ∧ clrS S sp sp 6 = nI 0 ∧ clrS S sp sp 7 = nI 0 ∧ clrS S sp sp 8 = nI 0 ∧ clrS S sp sp 9 = nI 0 ∧ clrS S sp sp 10 = nI 0 ∧ clrS S sp sp 11 = allF (nI 0) (nI 0) := by
  unfold clrS rszS
  simp only [up2_same]
  refine ⟨?_, ?_, ?_, ?_, ?_, ?_, ?_, ?_⟩ <;> simp [upd, fcF]
theorem mwW_at {S : Sto} : mwW S 114 14 = -1 ∧ mwW S 114 15 = nI 0 ∧ mwW S 114 18 = nI 0 ∧ mwW S 114 19 = nI 0 ∧ mwW S 114 20 = nI 0 ∧ mwW S 114 22 = nI 0 ∧ mwW S 114 25 = nI 0 ∧ mwW S 114 27 = nI 0 ∧ mwW S 114 28 = nI 0 ∧ (∀ k, (k < 14 ∨ 28 < k) → mwW S 114 k = S 114 k) ∧ ∀ i, i ≠ 114 → mwW S i = S i := by
  unfold mwW
  refine ⟨?_, ?_, ?_, ?_, ?_, ?_, ?_, ?_, ?_, fun k hk => ?_, fun i hi => ?_⟩
  · simp only [up2_same]; simp [upd]
  · simp only [up2_same]; simp [upd]
  · simp only [up2_same]; simp [upd]
  · simp only [up2_same]; simp [upd]
  · simp only [up2_same]; simp [upd]
  · simp only [up2_same]; simp [upd]
  · simp only [up2_same]; simp [upd]
  · simp only [up2_same]; simp [upd]
  · simp only [up2_same]; simp [upd]
  · rw [up114b (by omega), up114b (by omega), up114b (by omega), up114b (by omega), up114b (by omega), up114b (by omega), up114b (by omega), up114b (by omega), up114b (by omega)]
  · rw [up2_ne _ _ _ hi, up2_ne _ _ _ hi, up2_ne _ _ _ hi, up2_ne _ _ _ hi, up2_ne _ _ _ hi, up2_ne _ _ _ hi, up2_ne _ _ _ hi, up2_ne _ _ _ hi, up2_ne _ _ _ hi]
theorem read_rel {T U : Sto} {sp n : Nat} {q : Qr} (hn : n ≤ 240) (hsp : 2 < sp) (h13 : U 114 13 = nI n) (ht : T 2 = U 120) (hpos : ∀ i, i < n → ∃ c, c ≤ 255 ∧ U 120 i = nI c) : RDO (rdR T sp n q).1 sp (mwR U n).2 (rdR T sp n q).2 (mwR U n).1 ∧ (∀ i, i ≠ 114 → (i < 121 ∨ 124 < i) → (mwR U n).2 i = U i) ∧ ∀ j, (j < 14 ∨ 28 < j) → (mwR U n).2 114 j = U 114 j := by
  obtain ⟨w14, w15, w18, w19, w20, w22, w25, w27, w28, wk, wo⟩ := mwW_at (S := U)
  obtain ⟨c4, c5, c6, c7, c8, c9, c10, c11⟩ := clr_at (S := T) (sp := sp)
  refine ⟨?_, fun i h1 h2 => ?_, fun j hj => ?_⟩
  · unfold rdR mwR
    refine rd_rel hn hsp (t := U 120) hpos 240 (clrS T sp) (mwW U) (0, -1, 0, q.2.2.2.1, nI 0) 0 0 0 0 0 0 (by rw [clr_o (by omega)]; exact ht) (wo 120 (by omega)) ?_ rfl rfl (by omega) (by omega) (by rw [wk 13 (by omega)]; exact h13) w15 w14.symm
    exact ⟨⟨c4, c5, c6, c7.trans w28.symm, c8, c9, c10, c11⟩, ⟨w18, w19, w20, w22, w25, w27, Or.inl rfl⟩, Or.inl ⟨rfl, rfl, rfl, rfl, rfl⟩, ⟨by omega, by omega, by omega, by omega, by omega⟩, fun l hl => by omega, fun c hc => by omega, fun f hf => by omega⟩
  · unfold mwR
    rw [(mwG_fr 241 _ _).1 i h1 h2, wo i h1]
  · unfold mwR
    rw [(mwG_fr 241 _ _).2 j hj, wk j hj]
/-! the wall is made -/
theorem mwal_at {V : Sto} {kl kc kf : Nat} (e20 : kN V 20 = kl) (e22 : kN V 22 = kc) (e25 : kN V 25 = kf) :
    (mwalS V 114 0 = V 114 18 ∧ mwalS V 114 1 = V 114 19 ∧ mwalS V 114 2 = V 114 20 ∧ mwalS V 114 4 = V 114 22 ∧ mwalS V 114 7 = V 114 25 ∧ mwalS V 114 13 = nI 0 ∧ mwalS V 114 32 = nI 0 ∧ mwalS V 114 35 = nI 0) ∧ (∀ k, (k = 11 ∨ k = 14) → mwalS V 114 k = V 114 k) ∧ mwalS V 116 = cpN kc (V 122) (V 116) ∧ mwalS V 117 = cpN kc (V 123) (V 117) ∧ mwalS V 118 = cpN kf (V 124) (V 118) ∧ mwalS V 119 = upd (putW (cpN 34 (fun _ => nI 0) (V 119)) (cpN kl (V 121) (V 115)) 25 kl) 29 (V 114 28) ∧ mwalS V 133 0 = nI 0 ∧ mwalS V 133 1 = nI 0 ∧ ∀ i, (i < 114 ∨ (119 < i ∧ i ≠ 133)) → mwalS V i = V i := by
  unfold mwalS
  rw [e20, e22, e25]
  generalize hA : up2 V 114 13 (nI 0) = A
  have aO : ∀ i, i ≠ 114 → A i = V i := fun i h => by rw [← hA, up2_ne _ _ _ h]
  have aK : ∀ k, k ≠ 13 → A 114 k = V 114 k := fun k h => by rw [← hA, up114b h]
  have a13 : A 114 13 = nI 0 := by rw [← hA, up2_same, pk_us]
  have sO : ∀ i, i ≠ 114 → mreadS A i = V i := fun i h => by unfold mreadS; rw [up2_ne _ _ _ h, up2_ne _ _ _ h, up2_ne _ _ _ h, up2_ne _ _ _ h, up2_ne _ _ _ h, up2_ne _ _ _ h, aO i h]
  have sE : mreadS A 114 = upd (upd (upd (upd (upd (upd (A 114) 0 (A 114 18)) 1 (A 114 19)) 2 (A 114 20)) 4 (A 114 22)) 7 (A 114 25)) 9 (A 114 28) := by unfold mreadS; simp only [up2_same]
  generalize hB : mreadS A = B at sO sE
  have cO : ∀ i, (i < 115 ∨ 118 < i) → mreadC B kl kc kf i = B i := fun i h => mreadC_o h
  have c5 : mreadC B kl kc kf 115 = cpN kl (B 121) (B 115) := by unfold mreadC; rw [upA_ne _ _ (by omega), upA_ne _ _ (by omega), upA_ne _ _ (by omega), upA_same]
  have c6 : mreadC B kl kc kf 116 = cpN kc (B 122) (B 116) := by unfold mreadC; rw [upA_ne _ _ (by omega), upA_ne _ _ (by omega), upA_same]
  have c7 : mreadC B kl kc kf 117 = cpN kc (B 123) (B 117) := by unfold mreadC; rw [upA_ne _ _ (by omega), upA_same]
  have c8 : mreadC B kl kc kf 118 = cpN kf (B 124) (B 118) := by unfold mreadC; rw [upA_same]
  have tO : ∀ i, i ≠ 119 → mtrS A kl kc kf i = mreadC B kl kc kf i := fun i h => by
    unfold mtrS
    rw [hB]
    rw [up2_ne _ _ _ h]
    unfold mreadN
    rw [upA_ne _ _ h]
  have t9 : mtrS A kl kc kf 119 = upd (putW (cpN 34 (fun _ => nI 0) (V 119)) (cpN kl (V 121) (V 115)) 25 kl) 29 (V 114 28) := by
    unfold mtrS
    rw [hB, up2_same]
    unfold mreadN
    rw [upA_same, upA_ne _ _ (by omega), cO 119 (by omega), cO 114 (by omega), c5, sO 119 (by omega), sO 121 (by omega), sO 115 (by omega), sE, pk_us, aK 28 (by omega)]
  generalize mtrS A kl kc kf = D at tO t9
  have fO : ∀ i, i ≠ 114 → i ≠ 133 → up2 (up2 (up2 (up2 D 114 35 (nI 0)) 114 32 (nI 0)) 133 0 (nI 0)) 133 1 (nI 0) i = D i := fun i h1 h2 => by rw [up2_ne _ _ _ h2, up2_ne _ _ _ h2, up2_ne _ _ _ h1, up2_ne _ _ _ h1]
  have f4 : up2 (up2 (up2 (up2 D 114 35 (nI 0)) 114 32 (nI 0)) 133 0 (nI 0)) 133 1 (nI 0) 114 = upd (upd (D 114) 35 (nI 0)) 32 (nI 0) := by rw [up2_ne _ _ _ (by omega), up2_ne _ _ _ (by omega)]; simp only [up2_same]
  have d4 : D 114 = B 114 := by rw [tO 114 (by omega), cO 114 (by omega)]
  refine ⟨⟨?_, ?_, ?_, ?_, ?_, ?_, ?_, ?_⟩, fun k hk => ?_, ?_, ?_, ?_, ?_, ?_, ?_, fun i hi => ?_⟩
  · rw [f4, d4, sE]; simp [upd, aK 18 (by omega)]
  · rw [f4, d4, sE]; simp [upd, aK 19 (by omega)]
  · rw [f4, d4, sE]; simp [upd, aK 20 (by omega)]
  · rw [f4, d4, sE]; simp [upd, aK 22 (by omega)]
  · rw [f4, d4, sE]; simp [upd, aK 25 (by omega)]
  · rw [f4, d4, sE]; simp [upd, a13]
  · rw [f4, pk_us]
  · rw [f4, pk_un (by omega), pk_us]
  · rw [f4, d4, sE]
    rcases hk with rfl | rfl <;> simp [upd, aK 11 (by omega), aK 14 (by omega)]
  · rw [fO 116 (by omega) (by omega), tO 116 (by omega), c6, sO 122 (by omega), sO 116 (by omega)]
  · rw [fO 117 (by omega) (by omega), tO 117 (by omega), c7, sO 123 (by omega), sO 117 (by omega)]
  · rw [fO 118 (by omega) (by omega), tO 118 (by omega), c8, sO 124 (by omega), sO 118 (by omega)]
  · rw [fO 119 (by omega) (by omega), t9]
  · rw [up2_same, pk_un (by omega), up2_same, pk_us]
  · rw [up2_same, pk_us]
  · rw [fO i (by omega) (by omega), tO i (by omega), cO i (by omega), sO i (by omega)]
theorem beg_at {S : Sto} {sp : Nat} (h : 5 < sp) : begS S 3 sp 4 = cpN 25 (fun _ => nI 0) (S 4) ∧ begS S 3 sp 5 = cpN 4 (S (sp + 1)) (S 5) ∧ begS S 3 sp 3 2 = S sp 7 ∧ begS S 3 sp 3 3 = nI 0 ∧ begS S 3 sp 3 4 = nI 0 ∧ begS S 3 sp 3 5 = nI 0 ∧ begS S 3 sp 3 6 = nI 0 := by
  unfold begS
  generalize hT : upA (upA S (3 + 1) (cpN 25 (fun _ => nI 0) (S (3 + 1)))) (3 + 2) (cpN 4 (S (sp + 1)) (S (3 + 2))) = T
  have t4 : T 4 = cpN 25 (fun _ => nI 0) (S 4) := by rw [← hT, upA_ne _ _ (by omega), show (4 : Nat) = 3 + 1 from rfl, upA_same]
  have t5 : T 5 = cpN 4 (S (sp + 1)) (S 5) := by rw [← hT, show (5 : Nat) = 3 + 2 from rfl, upA_same]
  have ts : T sp = S sp := by rw [← hT, upA_ne _ _ (by omega), upA_ne _ _ (by omega)]
  refine ⟨?_, ?_, ?_, ?_, ?_, ?_, ?_⟩
  · rw [up2_ne _ _ _ (by omega), up2_ne _ _ _ (by omega), up2_ne _ _ _ (by omega), up2_ne _ _ _ (by omega), up2_ne _ _ _ (by omega), t4]
  · rw [up2_ne _ _ _ (by omega), up2_ne _ _ _ (by omega), up2_ne _ _ _ (by omega), up2_ne _ _ _ (by omega), up2_ne _ _ _ (by omega), t5]
  · simp only [up2_same]; simp [upd, ts]
  · simp only [up2_same]; simp [upd]
  · simp only [up2_same]; simp [upd]
  · simp only [up2_same]; simp [upd]
  · simp only [up2_same]; simp [upd]
