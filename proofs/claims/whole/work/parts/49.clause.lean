/-! a clause: class and model -/
def CLR (T' : Sto) (sp : Nat) (U' : Sto) (q' : Qr) (V : Int32) (n a : Nat) : Prop := (q'.1 = 0 ∧ V = nI 0 ∧ q'.2.1 = U' 114 14 ∧ U' 114 15 = nI q'.2.2.1 ∧ q'.2.2.1 ≤ n ∧ a < q'.2.2.1 ∧ ∃ hh ww kl kc kf, RDR T' sp U' q'.2.2.2.2 hh ww kl kc kf) ∨ (¬ q'.1 = 0 ∧ q'.1 ≤ 4 ∧ V = nI q'.1 ∧ q'.2.1 = U' 114 14)
theorem cl_fin {T Tk U : Sto} {sp n a kl kc kf hh : Nat} {K : Int32} {q1 qb : Qr} {wt : Int32} (hn : n ≤ 240) (hW : WI U n a kl kc kf hh) (h1 : ¬ mqB1 U n a) (hK : isK (mqC U n a) = K) (h2 : mfullV U K = 0) (e14 : q1.2.1 = U 114 14) (hb : BR q1 qb (bodF (mq1 U n a) n (skp (U 120) n a + 1) kc hh K) (bodP (mq1 U n a) n (skp (U 120) n a + 1) hh K) (bodE (mq1 U n a) n (skp (U 120) n a + 1) hh K)) (hk : bodF (mq1 U n a) n (skp (U 120) n a + 1) kc hh K = 0 → ∃ hh' ww' kl' kc' kf', RDR Tk sp (bodS (mq1 U n a) n (skp (U 120) n a + 1) kl kc kf hh K) wt hh' ww' kl' kc' kf') :
    CLR (if okSign (U 120) n qb (nI 59) then Tk else T) sp (mqS U n a kl kc kf hh) (if okSign (U 120) n qb (nI 59) then ((qSign (U 120) n qb (nI 59)).1, (qSign (U 120) n qb (nI 59)).2.1, (qSign (U 120) n qb (nI 59)).2.2.1, (qSign (U 120) n qb (nI 59)).2.2.2.1, wt) else qSign (U 120) n qb (nI 59)) (mqV U n a kl kc kf hh) n a := by
  subst hK
  obtain ⟨m1, m2, m3⟩ := msg hn hW h1 h2
  have hs : skp (U 120) n a < n := isK_lt (t := U 120) (fun z => h1 (Or.inl z))
  have hW1 : WI (mq1 U n a) n (skp (U 120) n a + 1) kl kc kf hh := WI_at (b := 0) hW hs
  rcases sg (t := U 120) (n := n) hb with ⟨f, c, ok, e⟩ | ⟨f, c, ok, e1, e2⟩ | ⟨f, ok, e1, e2⟩
  · obtain ⟨x1, x2, x3, x4⟩ := m1 f c
    rw [if_pos ok, if_pos ok, e]
    obtain ⟨hh', ww', kl', kc', kf', hr⟩ := hk f
    refine Or.inl ⟨rfl, x1, ?_, by rw [x2, up2_same, pk_us], x4, x3, hh', ww', kl', kc', kf', ?_⟩
    · show q1.2.1 = _
      rw [x2, up114b (by omega), bod_14 hn hW1.2.2.1 hW1.2.1 f, e14]
      unfold mq1
      rw [up114b (by omega)]
    · rw [x2]
      exact hr.cU (fun k hk => up114b (by omega)) (fun i h1 h2 => up2_ne _ _ _ (by omega))
  · obtain ⟨x1, x2⟩ := m2 f c
    rw [if_neg ok, if_neg ok]
    exact Or.inr ⟨by rw [e1]; decide, by rw [e1]; decide, by rw [e1]; exact x1, by rw [e2, x2]⟩
  · obtain ⟨x1, x2, x3⟩ := m3 f
    rw [if_neg ok, if_neg ok]
    exact Or.inr ⟨by rw [e1]; exact f, by rw [e1]; exact x3, by rw [e1]; exact x1, by rw [e2, x2]⟩
theorem qs_if {t : Nat → Int32} {n F P E : Nat} {q1 qb : Qr} (hb : BR q1 qb F P E) : (if okSign t n qb (nI 59) then ((qSign t n qb (nI 59)).1, (qSign t n qb (nI 59)).2.1, (qSign t n qb (nI 59)).2.2.1, (qSign t n qb (nI 59)).2.2.2.1, q1.2.2.2.2) else qSign t n qb (nI 59)) = qSign t n qb (nI 59) := by
  rcases sg (t := t) (n := n) hb with ⟨f, c, ok, e⟩ | ⟨f, c, ok, e1, e2⟩ | ⟨f, ok, e1, e2⟩
  · rw [if_pos ok, e]
  · rw [if_neg ok]
  · rw [if_neg ok]
theorem cl_full {U : Sto} {n a kl kc kf hh : Nat} (h1 : ¬ mqB1 U n a) (h2 : ¬ mfullV U (isK (mqC U n a)) = 0) : mqV U n a kl kc kf hh = nI 3 ∧ mqS U n a kl kc kf hh 114 14 = nI (skp (U 120) n a) := by
  unfold mqV mqS
  rw [if_neg h1, if_pos h2, if_neg h1, if_pos h2, up2_same, pk_us]
  exact ⟨rfl, rfl⟩
theorem cl_bad {U : Sto} {n a kl kc kf hh : Nat} (h1 : mqB1 U n a) : mqV U n a kl kc kf hh = nI 1 ∧ mqS U n a kl kc kf hh 114 14 = nI (skp (U 120) n a) := by
  unfold mqV mqS
  rw [if_pos h1, if_pos h1, up2_same, pk_us]
  exact ⟨rfl, rfl⟩
theorem word3 {q : Qr} (h : q.1 = 0) : (qWord q true).1 = 3 ∧ (qWord q true).2.1 = nI q.2.2.1 := by
  rw [qWord_t]
  unfold qFail qAt
  rw [if_pos h]
  exact ⟨rfl, rfl⟩
theorem fcR_full {T : Sto} {sp n : Nat} {q : Qr} (h : q.1 = 0) (hf : fcB T sp = true) : ∀ i, (fcR T sp n q i).2 = qWord q true
  | 0 => by unfold fcR; rw [hf]
  | i + 1 => by
    have ih := fcR_full (n := n) h hf i
    have z : ¬ (qWord q true).1 = 0 := by rw [(word3 h).1]; decide
    unfold fcR
    dsimp only
    rw [ih, qSign_f z]
    have : (if i = 0 then qWord q true else qWord q true) = qWord q true := by split <;> rfl
    rw [this, tnQ_f z]
theorem isK_no {w : Int32} (h : ¬ w = nI 119) : isK w < 0 ∨ ¬ isK w ≤ 0 := by
  unfold isK
  rw [if_neg h]
  split
  · exact Or.inr (by decide)
  · split
    · exact Or.inr (by decide)
    · split
      · exact Or.inr (by decide)
      · split
        · exact Or.inr (by decide)
        · exact Or.inl (by decide)
theorem bad_rel {T' U' : Sto} {sp n a k s : Nat} {V : Int32} {q' : Qr} (hk : k ≠ 0) (h4 : k ≤ 4) (h1 : q'.1 = k) (h2 : q'.2.1 = nI s) (h3 : V = nI k) (h5 : U' 114 14 = nI s) : CLR T' sp U' q' V n a := Or.inr ⟨by rw [h1]; exact hk, by rw [h1]; exact h4, by rw [h1]; exact h3, by rw [h2, h5]⟩
theorem k119 : isK (nI 119) = nI 0 := by decide
theorem k108 : isK (nI 108) = nI 1 := by decide
theorem k99 : isK (nI 99) = nI 2 := by decide
theorem k102 : isK (nI 102) = nI 3 := by decide
theorem k110 : isK (nI 110) = nI 4 := by decide
theorem cl_rel {T U : Sto} {sp n a hh ww kl kc kf : Nat} {q : Qr} (hn : n ≤ 240) (ht : T 2 = U 120) (hR : RDR T sp U q.2.2.2.2 hh ww kl kc kf) (h0 : q.1 = 0) (ha : q.2.2.1 = a) (han : a ≤ n) (h13 : U 114 13 = nI n) (h15 : U 114 15 = nI a) (h14 : q.2.1 = U 114 14) (hc : ¬ cur (U 120) n (skp (U 120) n a) = -1) : CLR (clR T sp n kc q).1 sp (mqS U n a kl kc kf hh) (clR T sp n kc q).2 (mqV U n a kl kc kf hh) n a := by
  have hW := hR.wi h13 h15 han
  have hs : skp (U 120) n a < n := Nat.lt_of_not_le (fun z => hc (if_neg (by omega)))
  obtain ⟨⟨t4, t5, t6, t7, t8, t9, t10, t11⟩, ⟨u18, u19, u20, u22, u25, u27, uw⟩, hor, ⟨b1, b2, b3, b4, b5⟩, hl, hcr, hf⟩ := id hR
  unfold clR
  dsimp only
  rw [ht, ha]
  -- the reader's numbers at the word
  generalize hq : qSkip (U 120) n q = q'
  have q0 : q'.1 = 0 := by rw [← hq]; exact h0
  have q1 : q'.2.1 = U 114 14 := by rw [← hq]; exact h14
  have q2 : q'.2.2.1 = skp (U 120) n a := by rw [← hq, ← ha]; rfl
  have q4 : q'.2.2.2.2 = q.2.2.2.2 := by rw [← hq]; rfl
  have hC : mqC U n a = cur (U 120) n (skp (U 120) n a) := rfl
  generalize hw : cur (U 120) n (skp (U 120) n a) = w at hC hc
  have fl : ∀ (k : Nat) (x : Int32), (qFail q' k x).1 = k ∧ (qFail q' k x).2.1 = x := fun k x => by unfold qFail; rw [if_pos q0]; exact ⟨rfl, rfl⟩
  have qf : qWord q' false = (0, q'.2.1, skp (U 120) n a + 1, q'.2.2.2) := by rw [qWord_f]; unfold qAt; rw [q0, q2]
  have w3 := word3 q0
  have wz : ¬ (qWord q' true).1 = 0 := by rw [w3.1]; decide
  rw [q2] at w3
  have uo : ∀ i, i ≠ 114 → mq1 U n a i = U i := fun i h => by unfold mq1; rw [up2_ne _ _ _ h]
  have uk : ∀ k, k ≠ 15 → mq1 U n a 114 k = U 114 k := fun k h => by unfold mq1; rw [up114b h]
  have eH : mtlH (mq1 U n a) = mtlH U := by unfold mtlH; rw [uk 18 (by omega), uk 19 (by omega)]
  have eX : mtlX (mq1 U n a) = mtlX U := by unfold mtlX; rw [uk 19 (by omega)]
  have hR1 : RDR T sp (mq1 U n a) q'.2.2.2.2 hh ww kl kc kf := by rw [q4]; exact hR.cU (fun k hk => uk k (by omega)) (fun i h1 h2 => uo i (by omega))
  have pH : plCells T sp - nI 1 = mtlH U := by unfold plCells mtlH; rw [t4, t5, u18, u19]
  have a1n : skp (U 120) n a + 1 ≤ n := hs
  by_cases B1 : T sp 4 = 0 ∧ ¬ w = nI 119
  · rw [if_pos B1, q2]
    have m1 : mqB1 U n a := by
      unfold mqB1
      rw [hC, u18, ← t4]
      exact (isK_no B1.2).imp id (fun z => ⟨z, B1.1⟩)
    obtain ⟨x1, x2⟩ := cl_bad (kl := kl) (kc := kc) (kf := kf) (hh := hh) m1
    exact bad_rel (k := 1) (by decide) (by decide) (fl 1 _).1 (fl 1 _).2 x1 x2
  · rw [if_neg B1]
    have hz : ¬ w = nI 119 → ¬ hh = 0 := fun z y => B1 ⟨by rw [t4, y]; rfl, z⟩
    have nB : ∀ K : Int32, isK w = K → ¬ K < 0 → (K ≤ 0 ∨ ¬ w = nI 119) → ¬ mqB1 U n a := fun K e k0 k1 z => by
      unfold mqB1 at z
      rw [hC, e] at z
      rcases z with z | ⟨z1, z2⟩
      · exact k0 z
      · rcases k1 with k1 | k1
        · exact z1 k1
        · rw [u18, nI_z (by omega)] at z2
          exact hz k1 z2
    by_cases w99 : w = nI 99
    · rw [if_pos w99]
      subst w99
      have m1 := nB (nI 2) k99 (by decide) (Or.inr (by decide))
      have hh0 := hz (by decide)
      by_cases ful : kc = 6
      · have m2 : ¬ mfullV U (isK (mqC U n a)) = 0 := by
          rw [hC, k99]
          unfold mfullV
          rw [if_neg (by decide), if_neg (by decide), if_pos rfl, u22, ful, if_pos rfl]
          decide
        have cb : ckB T sp = true := by unfold ckB; rw [t9, decide_eq_false (nI_nlt (by omega) (by omega))]; rfl
        obtain ⟨x1, x2⟩ := cl_full (kl := kl) (kc := kc) (kf := kf) (hh := hh) m1 m2
        have e3 : ckQ3 T sp n q' = qWord q' true := by unfold ckQ3 ckQ2; rw [cb, tnQ_f wz, tnQ_f wz]
        have e4 : ckQ4 T sp n kc q' = qWord q' true := by
          unfold ckQ4
          rw [e3]
          split
          · rfl
          · unfold qFail; rw [if_neg wz]
        rw [e4, qSign_f wz]
        exact bad_rel (k := 3) (by decide) (by decide) w3.1 w3.2 x1 x2
      · have m2 : mfullV U (nI 2) = 0 := by
          unfold mfullV
          rw [if_neg (by decide), if_neg (by decide), if_pos rfl, u22, if_neg (fun z => ful ((nI_eq (by omega) (by omega)).mp z))]
          decide
        have cb : ckB T sp = false := by unfold ckB; rw [t9, decide_eq_true (nI_lt (by omega) (by omega))]; rfl
        have eF : bodF (mq1 U n a) n (skp (U 120) n a + 1) kc hh (nI 2) = ckF (mq1 U n a) n (skp (U 120) n a + 1) kc := rfl
        have eP : bodP (mq1 U n a) n (skp (U 120) n a + 1) hh (nI 2) = ckP (mq1 U n a) n (skp (U 120) n a + 1) := rfl
        have eE : bodE (mq1 U n a) n (skp (U 120) n a + 1) hh (nI 2) = nmE (U 120) n (nmE (U 120) n (skp (U 120) n a + 1)) := by show nmE (mq1 U n a 120) n _ = _; rw [uo 120 (by omega)]
        have hnn : 0 < hh * ww := Nat.mul_pos (by omega) (by omega)
        have h25 := hR.n25
        have eH2 : mtlH U = nI (hh * ww) - nI 1 := by unfold mtlH; rw [u18, u19, pk_mul]
        have hb : BR (qWord q' false) (ckQ4 T sp n kc q') (bodF (mq1 U n a) n (skp (U 120) n a + 1) kc hh (nI 2)) (bodP (mq1 U n a) n (skp (U 120) n a + 1) hh (nI 2)) (bodE (mq1 U n a) n (skp (U 120) n a + 1) hh (nI 2)) := by
          rw [eF, eP, eE]
          have two := br_two (t := U 120) (n := n) (q := (0, q'.2.1, skp (U 120) n a + 1, q'.2.2.2)) (lo := nI 0) (hi := mtlH U) rfl hn a1n
          have e3 : ckQ3 T sp n q' = tnQ (U 120) n (tnQ (U 120) n (0, q'.2.1, skp (U 120) n a + 1, q'.2.2.2) (nI 0) (mtlH U)) (nI 0) (mtlH U) := by unfold ckQ3 ckQ2; rw [cb, qf, pH, ht]
          rw [qf]
          have g1 : nmF (mq1 U n a 120) n (skp (U 120) n a + 1) (nI 0) (mtlH (mq1 U n a)) = nmF (U 120) n (skp (U 120) n a + 1) (nI 0) (mtlH U) := by rw [uo 120 (by omega), eH]
          have g2 : nmF (mq1 U n a 120) n (nmE (mq1 U n a 120) n (skp (U 120) n a + 1)) (nI 0) (mtlH (mq1 U n a)) = nmF (U 120) n (nmE (U 120) n (skp (U 120) n a + 1)) (nI 0) (mtlH U) := by rw [uo 120 (by omega), eH]
          have g3 : skp (mq1 U n a 120) n (nmE (mq1 U n a 120) n (skp (U 120) n a + 1)) = skp (U 120) n (nmE (U 120) n (skp (U 120) n a + 1)) := by rw [uo 120 (by omega)]
          have g4 : skp (mq1 U n a 120) n (skp (U 120) n a + 1) = skp (U 120) n (skp (U 120) n a + 1) := by rw [uo 120 (by omega)]
          unfold ckF ckP
          rw [g1, g2, g3, g4]
          rw [← e3] at two
          by_cases f1 : nmF (U 120) n (skp (U 120) n a + 1) (nI 0) (mtlH U) = 0
          · rw [if_pos f1] at two ⊢
            rw [if_pos f1] at two
            rw [if_pos f1]
            by_cases f2 : nmF (U 120) n (nmE (U 120) n (skp (U 120) n a + 1)) (nI 0) (mtlH U) = 0
            · rw [if_pos f2]
              obtain ⟨v1, v2, v3, v4⟩ := two_v (t := U 120) (n := n) (q := (0, q'.2.1, skp (U 120) n a + 1, q'.2.2.2)) (lo := nI 0) (hi := mtlH U) rfl hn a1n f1
              obtain ⟨v5, v6, v7⟩ := v4 f2
              have eA : ckA T sp n q' = nI (nmV (U 120) n (skp (U 120) n a + 1)) := by unfold ckA; rw [cb, qf, ht, v1]
              have eC : ckC T sp n q' = nI (nmV (U 120) n (nmE (U 120) n (skp (U 120) n a + 1))) := by unfold ckC ckQ2; rw [cb, qf, ht, pH, v5]
              have l1 := nm_lt hnn h25 (eH2 ▸ f1)
              have l2 := nm_lt hnn h25 (eH2 ▸ f2)
              have iff1 : (plTouch T sp (ckA T sp n q') (ckC T sp n q') ∧ ¬ crkB T sp (ckA T sp n q') (ckC T sp n q') kc = true) ↔ ckOk (mq1 U n a) n (skp (U 120) n a + 1) kc := by
                rw [eA, eC]
                unfold ckOk
                rw [uo 120 (by omega), uk 19 (by omega), u19, touch_nx t5 (by omega) b2 (by omega) (by omega)]
                rw [crk_td (U := mq1 U n a) kc (fun c hc' => by
                  obtain ⟨x, y, _, _, _, r1, r2, r3, r4⟩ := hcr c hc'
                  rw [uo 122 (by omega), uo 123 (by omega), r1, r2, r3, r4]
                  exact ⟨rfl, rfl⟩)]
              unfold ckQ4
              by_cases ok : ckOk (mq1 U n a) n (skp (U 120) n a + 1) kc
              · rw [if_pos (iff1.mpr ok), if_pos ok]
                rw [f2] at two
                exact two
              · rw [if_neg (fun z => ok (iff1.mp z)), if_neg ok]
                refine ⟨fun z => absurd z (by decide), fun _ => ?_⟩
                have x : (ckQ3 T sp n q').1 = 0 := by rw [e3]; exact v7
                unfold qFail
                rw [if_pos x]
                exact ⟨rfl, by show nI (ckQ3 T sp n q').2.2.2.1 = _; rw [e3, v6]⟩
            · rw [if_neg f2]
              unfold ckQ4
              have x : ¬ (ckQ3 T sp n q').1 = 0 := by rw [(two.2 f2).1]; exact f2
              split
              · exact two
              · unfold qFail; rw [if_neg x]; exact two
          · rw [if_neg f1] at two ⊢
            rw [if_neg f1] at two
            rw [if_neg f1]
            unfold ckQ4
            have x : ¬ (ckQ3 T sp n q').1 = 0 := by rw [(two.2 f1).1]; exact f1
            split
            · exact two
            · unfold qFail; rw [if_neg x]; exact two
        have fin := cl_fin (T := T) (Tk := addCS T sp (ckA T sp n q') (ckC T sp n q')) (sp := sp) (wt := (qWord q' false).2.2.2.2) hn hW m1 (by rw [hC, k99]) m2 (by rw [qf]; exact q1) hb (fun f => by
          have f' : ckF (mq1 U n a) n (skp (U 120) n a + 1) kc = 0 := f
          obtain ⟨f1, f2, -⟩ := ckF_0 f'
          rw [uo 120 (by omega), eH] at f1 f2
          obtain ⟨v1, v2, v3, v4⟩ := two_v (t := U 120) (n := n) (q := (0, q'.2.1, skp (U 120) n a + 1, q'.2.2.2)) (lo := nI 0) (hi := mtlH U) rfl hn a1n f1
          obtain ⟨v5, v6, v7⟩ := v4 f2
          have eA : ckA T sp n q' = nI (nmV (U 120) n (skp (U 120) n a + 1)) := by unfold ckA; rw [cb, qf, ht, v1]
          have eC : ckC T sp n q' = nI (nmV (U 120) n (nmE (U 120) n (skp (U 120) n a + 1))) := by unfold ckC ckQ2; rw [cb, qf, ht, pH, v5]
          have r := rd_crack hn a1n hR1 hh0 (by omega) f'
          rw [uo 120 (by omega), ← eA, ← eC] at r
          exact ⟨_, _, _, _, _, by rw [qf]; exact r⟩)
        rw [qs_if hb] at fin
        unfold ckS
        rw [ht]
        exact fin
    · rw [if_neg w99]
      by_cases w102 : w = nI 102
      · rw [if_pos w102]
        subst w102
        have m1 := nB (nI 3) k102 (by decide) (Or.inr (by decide))
        have hh0 := hz (by decide)
        have rw' : rwN T sp = hh := by unfold rwN; rw [t4, nI_clamp (by omega)]
        by_cases ful : kf = 5
        · have m2 : ¬ mfullV U (isK (mqC U n a)) = 0 := by
            rw [hC, k102]
            unfold mfullV
            rw [if_neg (by decide), if_neg (by decide), if_neg (by decide), if_pos rfl, u25, ful, if_pos rfl]
            decide
          have cb : fcB T sp = true := by unfold fcB; rw [t10, decide_eq_false (nI_nlt (by omega) (by omega))]; rfl
          obtain ⟨x1, x2⟩ := cl_full (kl := kl) (kc := kc) (kf := kf) (hh := hh) m1 m2
          unfold fcQ
          rw [fcR_full q0 cb, qSign_f wz]
          exact bad_rel (k := 3) (by decide) (by decide) w3.1 w3.2 x1 x2
        · have m2 : mfullV U (nI 3) = 0 := by
            unfold mfullV
            rw [if_neg (by decide), if_neg (by decide), if_neg (by decide), if_pos rfl, u25, if_neg (fun z => ful ((nI_eq (by omega) (by omega)).mp z))]
            decide
          have cb : fcB T sp = false := by unfold fcB; rw [t10, decide_eq_true (nI_lt (by omega) (by omega))]; rfl
          have hX : mtlX U = fcHi T sp := by unfold mtlX fcHi; rw [t5, u19]
          obtain ⟨L1, L2⟩ := lk_rel (T := T) (sp := sp) (n := n) (ww := ww) (q := q') (hi := mtlX U) q0 hn (by rw [q2]; exact hs) t5 hX cb hh
          rw [q2, ht] at L1 L2
          have eU : lkU (mq1 U n a 120) n (skp (U 120) n a + 1) (mq1 U n a 114 19) (mtlX (mq1 U n a)) hh = lkU (U 120) n (skp (U 120) n a + 1) (nI ww) (mtlX U) hh := by rw [uo 120 (by omega), uk 19 (by omega), u19, eX]
          have hb : BR (qWord q' false) (fcR T sp n q' hh).2 (bodF (mq1 U n a) n (skp (U 120) n a + 1) kc hh (nI 3)) (bodP (mq1 U n a) n (skp (U 120) n a + 1) hh (nI 3)) (bodE (mq1 U n a) n (skp (U 120) n a + 1) hh (nI 3)) := by
            show BR _ _ (lkU (mq1 U n a 120) n (skp (U 120) n a + 1) (mq1 U n a 114 19) (mtlX (mq1 U n a)) hh).1 (lkU (mq1 U n a 120) n (skp (U 120) n a + 1) (mq1 U n a 114 19) (mtlX (mq1 U n a)) hh).2.1 (lkU (mq1 U n a 120) n (skp (U 120) n a + 1) (mq1 U n a 114 19) (mtlX (mq1 U n a)) hh).2.2.1
            rw [eU, qf]
            exact ⟨fun f => ⟨(L1 f).1, (L1 f).2.1, (L1 f).2.2.1, (L1 f).2.2.2.1⟩, L2⟩
          have fin := cl_fin (T := T) (Tk := addFS T sp (fcR T sp n q' hh).1) (sp := sp) (wt := (qWord q' false).2.2.2.2) hn hW m1 (by rw [hC, k102]) m2 (by rw [qf]; exact q1) hb (fun f => by
            have f' : (lkU (mq1 U n a 120) n (skp (U 120) n a + 1) (mq1 U n a 114 19) (mtlX (mq1 U n a)) hh).1 = 0 := f
            have r := rd_like hn (by unfold mq1; rw [up2_same, pk_us]) a1n hR1 hh0 (show kf < 5 by omega) f'
            rw [eU] at f' r
            rw [← (L1 f').2.2.2.2.1] at r
            exact ⟨_, _, _, _, _, by rw [qf]; exact r⟩)
          rw [qs_if hb] at fin
          unfold fcS fcQ
          rw [rw', ht]
          exact fin
      · rw [if_neg w102]
        by_cases w108 : w = nI 108
        · rw [if_pos w108]
          subst w108
          have m1 := nB (nI 1) k108 (by decide) (Or.inr (by decide))
          have hh0 := hz (by decide)
          by_cases ful : kl = 4
          · have m2 : ¬ mfullV U (isK (mqC U n a)) = 0 := by
              rw [hC, k108]
              unfold mfullV
              rw [if_neg (by decide), if_pos rfl, u20, ful, if_pos rfl]
              decide
            have cb : lkB T sp = true := by unfold lkB; rw [t8, decide_eq_false (nI_nlt (by omega) (by omega))]; rfl
            obtain ⟨x1, x2⟩ := cl_full (kl := kl) (kc := kc) (kf := kf) (hh := hh) m1 m2
            have e3 : lkQ2 T sp n q' = qWord q' true := by unfold lkQ2; rw [cb, tnQ_f wz]
            rw [e3, qSign_f wz]
            exact bad_rel (k := 3) (by decide) (by decide) w3.1 w3.2 x1 x2
          · have m2 : mfullV U (nI 1) = 0 := by
              unfold mfullV
              rw [if_neg (by decide), if_pos rfl, u20, if_neg (fun z => ful ((nI_eq (by omega) (by omega)).mp z))]
              decide
            have cb : lkB T sp = false := by unfold lkB; rw [t8, decide_eq_true (nI_lt (by omega) (by omega))]; rfl
            have e2 : lkQ2 T sp n q' = tnQ (U 120) n (0, q'.2.1, skp (U 120) n a + 1, q'.2.2.2) (nI 0) (mtlH U) := by unfold lkQ2; rw [cb, qf, pH, ht]
            have hb : BR (qWord q' false) (lkQ2 T sp n q') (bodF (mq1 U n a) n (skp (U 120) n a + 1) kc hh (nI 1)) (bodP (mq1 U n a) n (skp (U 120) n a + 1) hh (nI 1)) (bodE (mq1 U n a) n (skp (U 120) n a + 1) hh (nI 1)) := by
              show BR _ _ (nmF (mq1 U n a 120) n (skp (U 120) n a + 1) (nI 0) (mtlH (mq1 U n a))) (skp (mq1 U n a 120) n (skp (U 120) n a + 1)) (nmE (mq1 U n a 120) n (skp (U 120) n a + 1))
              rw [uo 120 (by omega), eH, e2, qf]
              exact br_num (q := (0, q'.2.1, skp (U 120) n a + 1, q'.2.2.2)) rfl hn a1n
            have fin := cl_fin (T := T) (Tk := addLS T sp (nI (tnM (U 120) n (qWord q' (lkB T sp))))) (sp := sp) (wt := (qWord q' false).2.2.2.2) hn hW m1 (by rw [hC, k108]) m2 (by rw [qf]; exact q1) hb (fun f => by
              have f' : nmF (mq1 U n a 120) n (skp (U 120) n a + 1) (nI 0) (mtlH (mq1 U n a)) = 0 := f
              have r := rd_leak hn a1n hR1 hh0 (show kl < 4 by omega) f'
              rw [uo 120 (by omega), eH] at f'
              have v := ((tnQ_s (t := U 120) (n := n) (q := (0, q'.2.1, skp (U 120) n a + 1, q'.2.2.2)) (lo := nI 0) (hi := mtlH U) rfl hn a1n).1 f').2
              rw [uo 120 (by omega)] at r
              exact ⟨_, _, _, _, _, by rw [cb, qf, v]; exact r⟩)
            rw [qs_if hb] at fin
            unfold lkS'
            rw [ht]
            exact fin
        · rw [if_neg w108]
          by_cases w110 : w = nI 110
          · rw [if_pos w110]
            subst w110
            have m1 := nB (nI 4) k110 (by decide) (Or.inr (by decide))
            by_cases ful : q'.2.2.2.2 = 0
            · have m2 : mfullV U (nI 4) = 0 := by
                unfold mfullV
                rw [if_neg (by decide), if_neg (by decide), if_neg (by decide), if_neg (by decide), u27, ← q4]
                exact ful
              have cb : wdB q' = false := by unfold wdB; rw [decide_eq_true ful]; rfl
              have e2 : wdQ2 (U 120) n q' = tnQ (U 120) n (0, q'.2.1, skp (U 120) n a + 1, q'.2.2.2) (nI 0) (nI 2) := by unfold wdQ2; rw [cb, qf]
              have hb : BR (qWord q' false) (wdQ2 (U 120) n q') (bodF (mq1 U n a) n (skp (U 120) n a + 1) kc hh (nI 4)) (bodP (mq1 U n a) n (skp (U 120) n a + 1) hh (nI 4)) (bodE (mq1 U n a) n (skp (U 120) n a + 1) hh (nI 4)) := by
                show BR _ _ (nmF (mq1 U n a 120) n (skp (U 120) n a + 1) (nI 0) (nI 2)) (skp (mq1 U n a 120) n (skp (U 120) n a + 1)) (nmE (mq1 U n a 120) n (skp (U 120) n a + 1))
                rw [uo 120 (by omega), e2, qf]
                exact br_num (q := (0, q'.2.1, skp (U 120) n a + 1, q'.2.2.2)) rfl hn a1n
              have fin := cl_fin (T := T) (Tk := up2 T sp 7 (nI (tnM (U 120) n (qWord q' (wdB q'))))) (sp := sp) (wt := nI 1) hn hW m1 (by rw [hC, k110]) m2 (by rw [qf]; exact q1) hb (fun f => by
                have f' : nmF (mq1 U n a 120) n (skp (U 120) n a + 1) (nI 0) (nI 2) = 0 := f
                have r := rd_wind hn a1n hR1 f'
                rw [uo 120 (by omega)] at f'
                have v := ((tnQ_s (t := U 120) (n := n) (q := (0, q'.2.1, skp (U 120) n a + 1, q'.2.2.2)) (lo := nI 0) (hi := nI 2) rfl hn a1n).1 f').2
                rw [uo 120 (by omega)] at r
                exact ⟨_, _, _, _, _, by rw [cb, qf, v]; exact r⟩)
              unfold wdS wdQ wdQ3
              rw [ht]
              exact fin
            · have m2 : ¬ mfullV U (isK (mqC U n a)) = 0 := by
                rw [hC, k110]
                unfold mfullV
                rw [if_neg (by decide), if_neg (by decide), if_neg (by decide), if_neg (by decide), u27, ← q4]
                exact ful
              have cb : wdB q' = true := by unfold wdB; rw [decide_eq_false ful]; rfl
              obtain ⟨x1, x2⟩ := cl_full (kl := kl) (kc := kc) (kf := kf) (hh := hh) m1 m2
              have e2 : wdQ2 (U 120) n q' = qWord q' true := by unfold wdQ2; rw [cb, tnQ_f wz]
              have e3 : wdQ (U 120) n q' = qWord q' true := by
                unfold wdQ wdQ3
                rw [e2, qSign_f wz, if_neg (fun z => wz z.1)]
              rw [e3]
              exact bad_rel (k := 3) (by decide) (by decide) w3.1 w3.2 x1 x2
          · rw [if_neg w110]
            by_cases w119 : w = nI 119
            · rw [if_pos w119]
              subst w119
              have m1 := nB (nI 0) k119 (by decide) (Or.inl (by decide))
              by_cases ful : hh = 0
              · have m2 : mfullV U (nI 0) = 0 := by
                  unfold mfullV
                  rw [if_pos rfl, u18, ful, if_pos (by decide)]
                  decide
                have cb : szB T sp = false := by unfold szB; rw [t4, ful, decide_eq_true (show nI 0 ≤ 0 by decide)]; rfl
                have hb : BR (qWord q' false) (szQ3 (U 120) n q' false) (bodF (mq1 U n a) n (skp (U 120) n a + 1) kc hh (nI 0)) (bodP (mq1 U n a) n (skp (U 120) n a + 1) hh (nI 0)) (bodE (mq1 U n a) n (skp (U 120) n a + 1) hh (nI 0)) := by
                  show BR _ _ (twF (mq1 U n a 120) n (skp (U 120) n a + 1)) (twP (mq1 U n a 120) n (skp (U 120) n a + 1)) (nmE (mq1 U n a 120) n (nmE (mq1 U n a 120) n (skp (U 120) n a + 1)))
                  unfold szQ3 szQ2
                  rw [uo 120 (by omega), qf]
                  exact br_two (q := (0, q'.2.1, skp (U 120) n a + 1, q'.2.2.2)) rfl hn a1n
                have fin := cl_fin (T := T) (Tk := rszS T sp (nI (tnM (U 120) n (qWord q' false))) (nI (tnM (U 120) n (szQ2 (U 120) n q' false))) (tnM (U 120) n (qWord q' false))) (sp := sp) (wt := (qWord q' false).2.2.2.2) hn hW m1 (by rw [hC, k119]) m2 (by rw [qf]; exact q1) hb (fun f => by
                  have f' : twF (mq1 U n a 120) n (skp (U 120) n a + 1) = 0 := f
                  have r := rd_size hn a1n hR1 ful f'
                  obtain ⟨f1, f2, -⟩ := mtwS_0 hn a1n f'
                  rw [uo 120 (by omega)] at f1 f2 r
                  obtain ⟨v1, v2, v3, v4⟩ := two_v (t := U 120) (n := n) (q := (0, q'.2.1, skp (U 120) n a + 1, q'.2.2.2)) (lo := nI 2) (hi := nI 5) rfl hn a1n f1
                  obtain ⟨v5, v6, v7⟩ := v4 f2
                  have eS : tnM (U 120) n (szQ2 (U 120) n q' false) = nmV (U 120) n (nmE (U 120) n (skp (U 120) n a + 1)) := by unfold szQ2; rw [qf, v5]
                  exact ⟨_, _, _, _, _, by rw [eS, qf, v1]; exact r⟩)
                rw [qs_if hb] at fin
                unfold szS szQ
                rw [ht, cb]
                exact fin
              · have m2 : ¬ mfullV U (isK (mqC U n a)) = 0 := by
                  rw [hC, k119]
                  unfold mfullV
                  rw [if_pos rfl, u18, if_neg (nI_nle (by omega) (by omega))]
                  decide
                have cb : szB T sp = true := by unfold szB; rw [t4, decide_eq_false (nI_nle (by omega) (by omega))]; rfl
                obtain ⟨x1, x2⟩ := cl_full (kl := kl) (kc := kc) (kf := kf) (hh := hh) m1 m2
                unfold szQ szQ3 szQ2
                rw [cb, tnQ_f wz, tnQ_f wz, qSign_f wz]
                exact bad_rel (k := 3) (by decide) (by decide) w3.1 w3.2 x1 x2
            · rw [if_neg w119, q2]
              have m1 : mqB1 U n a := by
                unfold mqB1
                rw [hC]
                left
                unfold isK
                rw [if_neg w119, if_neg w108, if_neg w99, if_neg w102, if_neg w110]
                decide
              obtain ⟨x1, x2⟩ := cl_bad (kl := kl) (kc := kc) (kf := kf) (hh := hh) m1
              exact bad_rel (k := 1) (by decide) (by decide) (fl 1 _).1 (fl 1 _).2 x1 x2
