def weS (S : Sto) (ee : Nat) (lk : Int32) : Sto := if (S 9 7 < bcF lk ∨ (bcF lk = S 9 7 ∧ ¬ S 9 6 ≤ lk)) ∧ ¬ bcF (marksF (S (ee + 1)) 25) < S 9 5 then up2 (up2 S 9 7 (bcF lk)) 9 6 lk else S
set_option maxHeartbeats 4000000 in
set_option maxRecDepth 100000 in
theorem c_X9_weigh (l : Launch) (C : JC) (hC : JInj C) (S : Sto) (ee : Nat) (e0 : jsh ee = (0, 1)) (e1 : jsh (ee + 1) = (1, 25)) (e2 : jsh (ee + 2) = (1, 4)) (lk : Int32) : Con l C yX9_weigh cX9_weigh 5 none 3 [.ref (C.2.1 9), .ref (C.2.1 ee), .int lk] S none (weS S ee lk) := by
  refine con_of RX9 2 [some (.ref (C.2.1 9)), some (.ref (C.2.1 ee)), some (.int lk), none, none] (by decide) rfl hC (Nat.le_of_ble_eq_true rfl) rfl (Nat.le_of_ble_eq_true rfl) (fun E hE hR => ?_)
  refine j_iload2 hE dX9_weigh_0 ?_
  refine j_S1i hE mX9_85 (c_J6_bitCount_0f7a4 l C hC _ _) dX9_weigh_1 (by decide) (Nat.le_of_ble_eq_true rfl) ?_
  refine j_istore3 hE dX9_weigh_4 rfl ?_
  refine j_iload3 hE dX9_weigh_5 ?_
  refine j_aload0 hE dX9_weigh_6 ?_
  refine j_geti hE fX9_55 dX9_weigh_7 (by first | assumption | rfl) ?_
  refine j_icmpgt hE 29 dX9_weigh_10 (by decide) (fun c10 => ?_) (fun c10 => ?_)
  · skip
    refine j_iconst hE (nI 1) dX9_weigh_29 kiconst_1 ?_
    refine j_goto hE 34 dX9_weigh_30 (by decide) ?_
    refine j_istore4 hE dX9_weigh_34 rfl ?_
    refine j_iload4 hE dX9_weigh_36 ?_
    refine j_ifeq hE 62 dX9_weigh_38 (by decide) (fun c38 => ?_) (fun c38 => ?_)
    · skip
      exact j_vret hE hR dX9_weigh_62 (by first
          | exact absurd c38 (by decide)
          | (rw [weS, if_neg (fun q => q.2 c49)]; done)
          | (rw [weS, if_pos ⟨Or.inl c10, c49⟩]; done)
          | (rw [weS, if_pos ⟨Or.inr ⟨c18, c26⟩, c49⟩]; done)
          | (rw [weS, if_neg (fun q => q.1.elim c10 (fun z => c18 z.1))]; done)
          | (rw [weS, if_neg (fun q => q.1.elim c10 (fun z => z.2 c26))]; done))
    · skip
      refine j_aload1 hE dX9_weigh_41 ?_
      refine j_V0i hE mX9_41 (c_X1_markCount l C hC _ ee e0 e1 e2) dX9_weigh_42 (by first | assumption | rfl) (by decide) (Nat.le_of_ble_eq_true rfl) ?_
      refine j_aload0 hE dX9_weigh_45 ?_
      refine j_geti hE fX9_97 dX9_weigh_46 (by first | assumption | rfl) ?_
      refine j_icmplt hE 62 dX9_weigh_49 (by decide) (fun c49 => ?_) (fun c49 => ?_)
      · skip
        exact j_vret hE hR dX9_weigh_62 (by first
            | exact absurd c38 (by decide)
            | (rw [weS, if_neg (fun q => q.2 c49)]; done)
            | (rw [weS, if_pos ⟨Or.inl c10, c49⟩]; done)
            | (rw [weS, if_pos ⟨Or.inr ⟨c18, c26⟩, c49⟩]; done)
            | (rw [weS, if_neg (fun q => q.1.elim c10 (fun z => c18 z.1))]; done)
            | (rw [weS, if_neg (fun q => q.1.elim c10 (fun z => z.2 c26))]; done))
      · skip
        refine j_aload0 hE dX9_weigh_52 ?_
        refine j_iload3 hE dX9_weigh_53 ?_
        refine j_puti hE pX9_55 dX9_weigh_54 (by first | assumption | rfl) rfl rfl ?_
        refine j_aload0 hE dX9_weigh_57 ?_
        refine j_iload2 hE dX9_weigh_58 ?_
        refine j_puti hE pX9_51 dX9_weigh_59 (by first | assumption | rfl) rfl rfl ?_
        exact j_vret hE hR dX9_weigh_62 (by first
            | exact absurd c38 (by decide)
            | (rw [weS, if_neg (fun q => q.2 c49)]; done)
            | (rw [weS, if_pos ⟨Or.inl c10, c49⟩]; done)
            | (rw [weS, if_pos ⟨Or.inr ⟨c18, c26⟩, c49⟩]; done)
            | (rw [weS, if_neg (fun q => q.1.elim c10 (fun z => c18 z.1))]; done)
            | (rw [weS, if_neg (fun q => q.1.elim c10 (fun z => z.2 c26))]; done))
  · skip
    refine j_iload3 hE dX9_weigh_13 ?_
    refine j_aload0 hE dX9_weigh_14 ?_
    refine j_geti hE fX9_55 dX9_weigh_15 (by first | assumption | rfl) ?_
    refine j_icmpne hE 33 dX9_weigh_18 (by decide) (fun c18 => ?_) (fun c18 => ?_)
    · skip
      refine j_iconst hE (nI 0) dX9_weigh_33 kiconst_0 ?_
      refine j_istore4 hE dX9_weigh_34 rfl ?_
      refine j_iload4 hE dX9_weigh_36 ?_
      refine j_ifeq hE 62 dX9_weigh_38 (by decide) (fun c38 => ?_) (fun c38 => ?_)
      · skip
        exact j_vret hE hR dX9_weigh_62 (by first
            | exact absurd c38 (by decide)
            | (rw [weS, if_neg (fun q => q.2 c49)]; done)
            | (rw [weS, if_pos ⟨Or.inl c10, c49⟩]; done)
            | (rw [weS, if_pos ⟨Or.inr ⟨c18, c26⟩, c49⟩]; done)
            | (rw [weS, if_neg (fun q => q.1.elim c10 (fun z => c18 z.1))]; done)
            | (rw [weS, if_neg (fun q => q.1.elim c10 (fun z => z.2 c26))]; done))
      · skip
        refine j_aload1 hE dX9_weigh_41 ?_
        refine j_V0i hE mX9_41 (c_X1_markCount l C hC _ ee e0 e1 e2) dX9_weigh_42 (by first | assumption | rfl) (by decide) (Nat.le_of_ble_eq_true rfl) ?_
        refine j_aload0 hE dX9_weigh_45 ?_
        refine j_geti hE fX9_97 dX9_weigh_46 (by first | assumption | rfl) ?_
        refine j_icmplt hE 62 dX9_weigh_49 (by decide) (fun c49 => ?_) (fun c49 => ?_)
        · skip
          exact j_vret hE hR dX9_weigh_62 (by first
              | exact absurd c38 (by decide)
              | (rw [weS, if_neg (fun q => q.2 c49)]; done)
              | (rw [weS, if_pos ⟨Or.inl c10, c49⟩]; done)
              | (rw [weS, if_pos ⟨Or.inr ⟨c18, c26⟩, c49⟩]; done)
              | (rw [weS, if_neg (fun q => q.1.elim c10 (fun z => c18 z.1))]; done)
              | (rw [weS, if_neg (fun q => q.1.elim c10 (fun z => z.2 c26))]; done))
        · skip
          refine j_aload0 hE dX9_weigh_52 ?_
          refine j_iload3 hE dX9_weigh_53 ?_
          refine j_puti hE pX9_55 dX9_weigh_54 (by first | assumption | rfl) rfl rfl ?_
          refine j_aload0 hE dX9_weigh_57 ?_
          refine j_iload2 hE dX9_weigh_58 ?_
          refine j_puti hE pX9_51 dX9_weigh_59 (by first | assumption | rfl) rfl rfl ?_
          exact j_vret hE hR dX9_weigh_62 (by first
              | exact absurd c38 (by decide)
              | (rw [weS, if_neg (fun q => q.2 c49)]; done)
              | (rw [weS, if_pos ⟨Or.inl c10, c49⟩]; done)
              | (rw [weS, if_pos ⟨Or.inr ⟨c18, c26⟩, c49⟩]; done)
              | (rw [weS, if_neg (fun q => q.1.elim c10 (fun z => c18 z.1))]; done)
              | (rw [weS, if_neg (fun q => q.1.elim c10 (fun z => z.2 c26))]; done))
    · skip
      refine j_iload2 hE dX9_weigh_21 ?_
      refine j_aload0 hE dX9_weigh_22 ?_
      refine j_geti hE fX9_51 dX9_weigh_23 (by first | assumption | rfl) ?_
      refine j_icmpge hE 33 dX9_weigh_26 (by decide) (fun c26 => ?_) (fun c26 => ?_)
      · skip
        refine j_iconst hE (nI 0) dX9_weigh_33 kiconst_0 ?_
        refine j_istore4 hE dX9_weigh_34 rfl ?_
        refine j_iload4 hE dX9_weigh_36 ?_
        refine j_ifeq hE 62 dX9_weigh_38 (by decide) (fun c38 => ?_) (fun c38 => ?_)
        · skip
          exact j_vret hE hR dX9_weigh_62 (by first
              | exact absurd c38 (by decide)
              | (rw [weS, if_neg (fun q => q.2 c49)]; done)
              | (rw [weS, if_pos ⟨Or.inl c10, c49⟩]; done)
              | (rw [weS, if_pos ⟨Or.inr ⟨c18, c26⟩, c49⟩]; done)
              | (rw [weS, if_neg (fun q => q.1.elim c10 (fun z => c18 z.1))]; done)
              | (rw [weS, if_neg (fun q => q.1.elim c10 (fun z => z.2 c26))]; done))
        · skip
          refine j_aload1 hE dX9_weigh_41 ?_
          refine j_V0i hE mX9_41 (c_X1_markCount l C hC _ ee e0 e1 e2) dX9_weigh_42 (by first | assumption | rfl) (by decide) (Nat.le_of_ble_eq_true rfl) ?_
          refine j_aload0 hE dX9_weigh_45 ?_
          refine j_geti hE fX9_97 dX9_weigh_46 (by first | assumption | rfl) ?_
          refine j_icmplt hE 62 dX9_weigh_49 (by decide) (fun c49 => ?_) (fun c49 => ?_)
          · skip
            exact j_vret hE hR dX9_weigh_62 (by first
                | exact absurd c38 (by decide)
                | (rw [weS, if_neg (fun q => q.2 c49)]; done)
                | (rw [weS, if_pos ⟨Or.inl c10, c49⟩]; done)
                | (rw [weS, if_pos ⟨Or.inr ⟨c18, c26⟩, c49⟩]; done)
                | (rw [weS, if_neg (fun q => q.1.elim c10 (fun z => c18 z.1))]; done)
                | (rw [weS, if_neg (fun q => q.1.elim c10 (fun z => z.2 c26))]; done))
          · skip
            refine j_aload0 hE dX9_weigh_52 ?_
            refine j_iload3 hE dX9_weigh_53 ?_
            refine j_puti hE pX9_55 dX9_weigh_54 (by first | assumption | rfl) rfl rfl ?_
            refine j_aload0 hE dX9_weigh_57 ?_
            refine j_iload2 hE dX9_weigh_58 ?_
            refine j_puti hE pX9_51 dX9_weigh_59 (by first | assumption | rfl) rfl rfl ?_
            exact j_vret hE hR dX9_weigh_62 (by first
                | exact absurd c38 (by decide)
                | (rw [weS, if_neg (fun q => q.2 c49)]; done)
                | (rw [weS, if_pos ⟨Or.inl c10, c49⟩]; done)
                | (rw [weS, if_pos ⟨Or.inr ⟨c18, c26⟩, c49⟩]; done)
                | (rw [weS, if_neg (fun q => q.1.elim c10 (fun z => c18 z.1))]; done)
                | (rw [weS, if_neg (fun q => q.1.elim c10 (fun z => z.2 c26))]; done))
      · skip
        refine j_iconst hE (nI 1) dX9_weigh_29 kiconst_1 ?_
        refine j_goto hE 34 dX9_weigh_30 (by decide) ?_
        refine j_istore4 hE dX9_weigh_34 rfl ?_
        refine j_iload4 hE dX9_weigh_36 ?_
        refine j_ifeq hE 62 dX9_weigh_38 (by decide) (fun c38 => ?_) (fun c38 => ?_)
        · skip
          exact j_vret hE hR dX9_weigh_62 (by first
              | exact absurd c38 (by decide)
              | (rw [weS, if_neg (fun q => q.2 c49)]; done)
              | (rw [weS, if_pos ⟨Or.inl c10, c49⟩]; done)
              | (rw [weS, if_pos ⟨Or.inr ⟨c18, c26⟩, c49⟩]; done)
              | (rw [weS, if_neg (fun q => q.1.elim c10 (fun z => c18 z.1))]; done)
              | (rw [weS, if_neg (fun q => q.1.elim c10 (fun z => z.2 c26))]; done))
        · skip
          refine j_aload1 hE dX9_weigh_41 ?_
          refine j_V0i hE mX9_41 (c_X1_markCount l C hC _ ee e0 e1 e2) dX9_weigh_42 (by first | assumption | rfl) (by decide) (Nat.le_of_ble_eq_true rfl) ?_
          refine j_aload0 hE dX9_weigh_45 ?_
          refine j_geti hE fX9_97 dX9_weigh_46 (by first | assumption | rfl) ?_
          refine j_icmplt hE 62 dX9_weigh_49 (by decide) (fun c49 => ?_) (fun c49 => ?_)
          · skip
            exact j_vret hE hR dX9_weigh_62 (by first
                | exact absurd c38 (by decide)
                | (rw [weS, if_neg (fun q => q.2 c49)]; done)
                | (rw [weS, if_pos ⟨Or.inl c10, c49⟩]; done)
                | (rw [weS, if_pos ⟨Or.inr ⟨c18, c26⟩, c49⟩]; done)
                | (rw [weS, if_neg (fun q => q.1.elim c10 (fun z => c18 z.1))]; done)
                | (rw [weS, if_neg (fun q => q.1.elim c10 (fun z => z.2 c26))]; done))
          · skip
            refine j_aload0 hE dX9_weigh_52 ?_
            refine j_iload3 hE dX9_weigh_53 ?_
            refine j_puti hE pX9_55 dX9_weigh_54 (by first | assumption | rfl) rfl rfl ?_
            refine j_aload0 hE dX9_weigh_57 ?_
            refine j_iload2 hE dX9_weigh_58 ?_
            refine j_puti hE pX9_51 dX9_weigh_59 (by first | assumption | rfl) rfl rfl ?_
            exact j_vret hE hR dX9_weigh_62 (by first
                | exact absurd c38 (by decide)
                | (rw [weS, if_neg (fun q => q.2 c49)]; done)
                | (rw [weS, if_pos ⟨Or.inl c10, c49⟩]; done)
                | (rw [weS, if_pos ⟨Or.inr ⟨c18, c26⟩, c49⟩]; done)
                | (rw [weS, if_neg (fun q => q.1.elim c10 (fun z => c18 z.1))]; done)
                | (rw [weS, if_neg (fun q => q.1.elim c10 (fun z => z.2 c26))]; done))

def tlS (pp nl nc : Nat) : Nat → Sto → Nat → Nat → Int32 → Sto
  | 0, S, fr, _, lk => weS S fr lk
  | m + 1, S, fr, k, lk =>
    let A := copS S (17 + 3 * k) fr
    let B := rainS A pp (17 + 3 * k) 10 nl nc (A 9 4)
    let G := tlS pp nl nc m B (17 + 3 * k) (k + 1) lk
    tlS pp nl nc m (shrS G (17 + 3 * k) pp) (17 + 3 * k) (k + 1) (lk ||| (nI 1 <<< (nI k &&& 31)))
theorem stg_sh : ∀ k, k < 8 → jsh (17 + 3 * k) = (0, 1) ∧ jsh (17 + 3 * k + 1) = (1, 25) ∧ jsh (17 + 3 * k + 2) = (1, 4) := by decide
theorem we_o {S : Sto} {ee i : Nat} {lk : Int32} (h : i ≠ 9) : weS S ee lk i = S i := by
  unfold weS
  split
  · rw [up2_ne _ _ _ h, up2_ne _ _ _ h]
  · rfl
theorem we_9 {S : Sto} {ee k : Nat} {lk : Int32} (h : k < 6) : weS S ee lk 9 k = S 9 k := by
  unfold weS
  split
  · rw [up2_same, up2_same, pk_un (by omega), pk_un (by omega)]
  · rfl
theorem tl_o {pp nl nc i : Nat} (hi : i < 9 ∨ i = 10 ∨ (12 < i ∧ i < 17) ∨ 40 < i) : ∀ (m : Nat) (S : Sto) (fr k : Nat) (lk : Int32), k + m ≤ 8 → tlS pp nl nc m S fr k lk i = S i
  | 0, S, fr, k, lk, _ => by rw [tlS, we_o (by omega)]
  | m + 1, S, fr, k, lk, hk => by
    rw [tlS, tl_o hi m _ _ _ _ (by omega), shr_o (by omega) (by omega), tl_o hi m _ _ _ _ (by omega), rain_o (by omega) (by omega) (by omega) (by omega), cop_o (by omega) (by omega) (by omega)]
theorem tl_9 {pp nl nc q : Nat} (hq : q < 6) : ∀ (m : Nat) (S : Sto) (fr k : Nat) (lk : Int32), k + m ≤ 8 → tlS pp nl nc m S fr k lk 9 q = S 9 q
  | 0, S, fr, k, lk, _ => by rw [tlS, we_9 hq]
  | m + 1, S, fr, k, lk, hk => by
    rw [tlS, tl_9 hq m _ _ _ _ (by omega), shr_o (by omega) (by omega), tl_9 hq m _ _ _ _ (by omega), rain_o (by omega) (by omega) (by omega) (by omega), cop_o (by omega) (by omega) (by omega)]
theorem pp_far2 {pp : Nat} (h : jsh pp = (0, 6)) : 40 < pp := by
  rcases Nat.lt_or_ge 40 pp with q | q
  · exact q
  · exfalso
    have : ∀ k, k < 41 → jsh k ≠ (0, 6) := by decide
    exact this pp (by omega) h
set_option maxHeartbeats 4000000 in
set_option maxRecDepth 100000 in
theorem c_tl_0 (l : Launch) (C : JC) (hC : JInj C) (S : Sto) (pp : Nat) (h0 : jsh pp = (0, 6)) (h1 : jsh (pp + 1) = (1, 4)) (h2 : jsh (pp + 2) = (1, 6)) (h3 : jsh (pp + 3) = (1, 6)) (h4 : jsh (pp + 4) = (1, 5)) (ee : Nat) (e0 : jsh ee = (0, 1)) (e1 : jsh (ee + 1) = (1, 25)) (e2 : jsh (ee + 2) = (1, 4)) (n : Nat) (hn : n ≤ 8) (hdn : S 9 3 = nI n) (lk : Int32) : Con l C yX9_tryLooks cX9_tryLooks 6 none 10 [.ref (C.2.1 9), .ref (C.2.1 pp), .ref (C.2.1 ee), .int (nI n), .int lk] S none (weS S ee lk) := by
  refine con_of RX9 1 [some (.ref (C.2.1 9)), some (.ref (C.2.1 pp)), some (.ref (C.2.1 ee)), some (.int (nI n)), some (.int lk), none] (by decide) rfl hC (Nat.le_of_ble_eq_true rfl) rfl (Nat.le_of_ble_eq_true rfl) (fun E hE hR => ?_)
  refine j_iload3 hE dX9_tryLooks_0 ?_
  refine j_aload0 hE dX9_tryLooks_1 ?_
  refine j_geti hE fX9_91 dX9_tryLooks_2 (by first | assumption | rfl) ?_
  refine j_icmpge hE 17 dX9_tryLooks_5 (by decide) (fun c5 => ?_) (fun c5 => ?_)
  · skip
    refine j_aload0 hE dX9_tryLooks_17 ?_
    refine j_aload2 hE dX9_tryLooks_18 ?_
    refine j_iload4 hE dX9_tryLooks_19 ?_
    refine j_V2v hE mX9_104 (c_X9_weigh l C hC _ ee e0 e1 e2 lk) dX9_tryLooks_21 (by first | assumption | rfl) (by decide) (Nat.le_of_ble_eq_true rfl) ?_
    exact j_vret hE hR dX9_tryLooks_24 (rfl)
  · skip
    exact absurd (by rw [hdn]; exact Int32.le_refl _) c5

theorem j_top2 {C : JC} {E : JE} {S : Sto} {pc : Nat} {lv : List (Option Value)} {st : List Value} {a : Value} {x y : Int32} (h : x = y) (k : J C E S pc lv (a :: .int y :: st)) : J C E S pc lv (a :: .int x :: st) := h ▸ k
set_option maxHeartbeats 4000000 in
set_option maxRecDepth 100000 in
theorem c_tl_s (l : Launch) (C : JC) (hC : JInj C) (S : Sto) (pp : Nat) (h0 : jsh pp = (0, 6)) (h1 : jsh (pp + 1) = (1, 4)) (h2 : jsh (pp + 2) = (1, 6)) (h3 : jsh (pp + 3) = (1, 6)) (h4 : jsh (pp + 4) = (1, 5)) (ee : Nat) (e0 : jsh ee = (0, 1)) (e1 : jsh (ee + 1) = (1, 25)) (e2 : jsh (ee + 2) = (1, 4)) (nl : Nat) (hnl : S pp 8 = nI nl) (hll : nl ≤ 4) (nc : Nat) (hnc : S pp 9 = nI nc) (hle : nc ≤ 6) (n m k : Nat) (hkm : k + (m + 1) = n) (hn : n ≤ 8) (hdn : S 9 3 = nI n) (lk : Int32) (ih : ∀ (T : Sto) (fr : Nat) (q : Int32), jsh fr = (0, 1) → jsh (fr + 1) = (1, 25) → jsh (fr + 2) = (1, 4) → T pp 8 = nI nl → T pp 9 = nI nc → T 9 3 = nI n → Con l C yX9_tryLooks cX9_tryLooks 6 none (10 + m) [.ref (C.2.1 9), .ref (C.2.1 pp), .ref (C.2.1 fr), .int (nI (k + 1)), .int q] T none (tlS pp nl nc m T fr (k + 1) q)) : Con l C yX9_tryLooks cX9_tryLooks 6 none (10 + (m + 1)) [.ref (C.2.1 9), .ref (C.2.1 pp), .ref (C.2.1 ee), .int (nI k), .int lk] S none (tlS pp nl nc (m + 1) S ee k lk) := by
  have hf : 40 < pp := pp_far2 h0
  obtain ⟨s0, s1, s2⟩ := stg_sh k (by omega)
  refine con_of RX9 1 [some (.ref (C.2.1 9)), some (.ref (C.2.1 pp)), some (.ref (C.2.1 ee)), some (.int (nI k)), some (.int lk), none] (by decide) rfl hC (Nat.le_of_ble_eq_true rfl) rfl (Nat.le_of_ble_eq_true rfl) (fun E hE hR => ?_)
  refine j_iload3 hE dX9_tryLooks_0 ?_
  refine j_aload0 hE dX9_tryLooks_1 ?_
  refine j_geti hE fX9_91 dX9_tryLooks_2 (by first | assumption | rfl) ?_
  refine j_icmpge hE 17 dX9_tryLooks_5 (by decide) (fun c5 => ?_) (fun c5 => ?_)
  · skip
    exact absurd c5 (by rw [hdn]; exact nI_ge (by omega) (by omega))
  · skip
    refine j_iload3 hE dX9_tryLooks_8 ?_
    refine j_aload0 hE dX9_tryLooks_9 ?_
    refine j_getr hE fX9_25 dX9_tryLooks_10 (j := 16) (by first | assumption | rfl) (rfl) ?_
    refine j_alen3 hE dX9_tryLooks_13 (nI 8) rfl rfl ?_
    refine j_icmplt hE 25 dX9_tryLooks_14 (by decide) (fun c14 => ?_) (fun c14 => ?_)
    · skip
      refine j_aload0 hE dX9_tryLooks_25 ?_
      refine j_getr hE fX9_25 dX9_tryLooks_26 (j := 16) (by first | assumption | rfl) (rfl) ?_
      refine j_iload3 hE dX9_tryLooks_29 ?_
      refine j_aald3 (j := 17 + 3 * k) hE dX9_tryLooks_30 rfl (vp_in_nI (by omega) (by decide)) (by rw [nI_clamp (by omega)]; rfl) ?_
      refine j_astore5 hE dX9_tryLooks_31 rfl ?_
      refine j_aload5 hE dX9_tryLooks_33 ?_
      refine j_aload2 hE dX9_tryLooks_35 ?_
      refine j_V1v hE mX9_29 (c_X1_copyFrom l C hC _ (17 + 3 * k) s0 s1 s2 ee e0 e1 e2) dX9_tryLooks_36 (by first | assumption | rfl) (by omega) (Nat.le_of_ble_eq_true rfl) ?_
      refine j_aload0 hE dX9_tryLooks_39 ?_
      refine j_getr hE fX9_12 dX9_tryLooks_40 (j := 10) (by first | assumption | rfl) (rfl) ?_
      refine j_aload1 hE dX9_tryLooks_43 ?_
      refine j_aload5 hE dX9_tryLooks_44 ?_
      refine j_aload0 hE dX9_tryLooks_46 ?_
      refine j_geti hE fX9_94 dX9_tryLooks_47 (by first | assumption | rfl) ?_
      refine j_V3v hE mX9_44 (c_X3_rainDay l C hC _ pp h0 h1 h2 h3 h4 (17 + 3 * k) s0 s1 s2 10 rfl rfl rfl nl (by rw [cop_o (by omega) (by omega) (by omega)]; exact hnl) hll nc (by rw [cop_o (by omega) (by omega) (by omega)]; exact hnc) hle _) dX9_tryLooks_50 (by first | assumption | rfl) (by omega) (Nat.le_of_ble_eq_true rfl) ?_
      refine j_aload0 hE dX9_tryLooks_53 ?_
      refine j_aload1 hE dX9_tryLooks_54 ?_
      refine j_aload5 hE dX9_tryLooks_55 ?_
      refine j_iload3 hE dX9_tryLooks_57 ?_
      refine j_iconst hE (nI 1) dX9_tryLooks_58 kiconst_1 ?_
      refine j_iadd hE dX9_tryLooks_59 ?_
      refine j_iload4 hE dX9_tryLooks_60 ?_
      refine j_top2 (nI_1 k) ?_
      refine j_S5v hE mX9_100 (ih _ (17 + 3 * k) _ s0 s1 s2 (by rw [rain_o (by omega) (by omega) (by omega) (by omega), cop_o (by omega) (by omega) (by omega)]; exact hnl) (by rw [rain_o (by omega) (by omega) (by omega) (by omega), cop_o (by omega) (by omega) (by omega)]; exact hnc) (by rw [rain_o (by omega) (by omega) (by omega) (by omega), cop_o (by omega) (by omega) (by omega)]; exact hdn)) dX9_tryLooks_62 (by omega) (Nat.le_of_ble_eq_true rfl) ?_
      refine j_aload5 hE dX9_tryLooks_65 ?_
      refine j_aload1 hE dX9_tryLooks_67 ?_
      refine j_V1v hE mX9_108 (c_X1_shrink l C hC _ (17 + 3 * k) s0 s1 s2 pp h0) dX9_tryLooks_68 (by first | assumption | rfl) (by omega) (Nat.le_of_ble_eq_true rfl) ?_
      refine j_aload0 hE dX9_tryLooks_71 ?_
      refine j_aload1 hE dX9_tryLooks_72 ?_
      refine j_aload5 hE dX9_tryLooks_73 ?_
      refine j_iload3 hE dX9_tryLooks_75 ?_
      refine j_iconst hE (nI 1) dX9_tryLooks_76 kiconst_1 ?_
      refine j_iadd hE dX9_tryLooks_77 ?_
      refine j_iload4 hE dX9_tryLooks_78 ?_
      refine j_iconst hE (nI 1) dX9_tryLooks_80 kiconst_1 ?_
      refine j_iload3 hE dX9_tryLooks_81 ?_
      refine j_ishl hE dX9_tryLooks_82 ?_
      refine j_ior hE dX9_tryLooks_83 ?_
      refine j_top2 (nI_1 k) ?_
      refine j_S5v hE mX9_100 (ih _ (17 + 3 * k) _ s0 s1 s2 (by rw [shr_o (by omega) (by omega), tl_o (by omega) _ _ _ _ _ (by omega), rain_o (by omega) (by omega) (by omega) (by omega), cop_o (by omega) (by omega) (by omega)]; exact hnl) (by rw [shr_o (by omega) (by omega), tl_o (by omega) _ _ _ _ _ (by omega), rain_o (by omega) (by omega) (by omega) (by omega), cop_o (by omega) (by omega) (by omega)]; exact hnc) (by rw [shr_o (by omega) (by omega), tl_9 (by omega) _ _ _ _ _ (by omega), rain_o (by omega) (by omega) (by omega) (by omega), cop_o (by omega) (by omega) (by omega)]; exact hdn)) dX9_tryLooks_84 (by omega) (Nat.le_of_ble_eq_true rfl) ?_
      exact j_vret hE hR dX9_tryLooks_87 (rfl)
    · skip
      exact absurd (nI_lt (by omega) (by decide)) c14

theorem c_tl (l : Launch) (C : JC) (hC : JInj C) (pp : Nat) (h0 : jsh pp = (0, 6)) (h1 : jsh (pp + 1) = (1, 4)) (h2 : jsh (pp + 2) = (1, 6)) (h3 : jsh (pp + 3) = (1, 6)) (h4 : jsh (pp + 4) = (1, 5)) (nl : Nat) (hll : nl ≤ 4) (nc : Nat) (hle : nc ≤ 6) (n : Nat) (hn : n ≤ 8) : ∀ (m k : Nat), k + m = n → ∀ (T : Sto) (fr : Nat) (q : Int32), jsh fr = (0, 1) → jsh (fr + 1) = (1, 25) → jsh (fr + 2) = (1, 4) → T pp 8 = nI nl → T pp 9 = nI nc → T 9 3 = nI n → Con l C yX9_tryLooks cX9_tryLooks 6 none (10 + m) [.ref (C.2.1 9), .ref (C.2.1 pp), .ref (C.2.1 fr), .int (nI k), .int q] T none (tlS pp nl nc m T fr k q) := by
  intro m
  induction m with
  | zero =>
    intro k hk T fr q a0 a1 a2 _ _ b2
    have : k = n := by omega
    subst this
    exact c_tl_0 l C hC T pp h0 h1 h2 h3 h4 fr a0 a1 a2 k hn b2 q
  | succ m ih =>
    intro k hk T fr q a0 a1 a2 b0 b1 b2
    exact c_tl_s l C hC T pp h0 h1 h2 h3 h4 fr a0 a1 a2 nl b0 hll nc b1 hle n m k hk hn b2 q (ih (k + 1) (by omega))
def lmS (S : Sto) (pp ee nl nc n : Nat) (r w : Int32) : Sto := tlS pp nl nc n (up2 (up2 (up2 (up2 (up2 S 9 3 (nI n)) 9 4 r) 9 5 w) 9 6 (-1)) 9 7 (-1)) ee 0 (nI 0)
set_option maxHeartbeats 4000000 in
set_option maxRecDepth 100000 in
theorem c_X9_lookMost (l : Launch) (C : JC) (hC : JInj C) (S : Sto) (pp : Nat) (h0 : jsh pp = (0, 6)) (h1 : jsh (pp + 1) = (1, 4)) (h2 : jsh (pp + 2) = (1, 6)) (h3 : jsh (pp + 3) = (1, 6)) (h4 : jsh (pp + 4) = (1, 5)) (ee : Nat) (e0 : jsh ee = (0, 1)) (e1 : jsh (ee + 1) = (1, 25)) (e2 : jsh (ee + 2) = (1, 4)) (nl : Nat) (hnl : S pp 8 = nI nl) (hll : nl ≤ 4) (nc : Nat) (hnc : S pp 9 = nI nc) (hle : nc ≤ 6) (n : Nat) (hn : n ≤ 8) (r w : Int32) : Con l C yX9_lookMost cX9_lookMost 6 none 20 [.ref (C.2.1 9), .ref (C.2.1 pp), .ref (C.2.1 ee), .int (nI n), .int r, .int w] S none (lmS S pp ee nl nc n r w) := by
  have hf : 40 < pp := pp_far2 h0
  refine con_of RX9 0 [some (.ref (C.2.1 9)), some (.ref (C.2.1 pp)), some (.ref (C.2.1 ee)), some (.int (nI n)), some (.int r), some (.int w)] (by decide) rfl hC (Nat.le_of_ble_eq_true rfl) rfl (Nat.le_of_ble_eq_true rfl) (fun E hE hR => ?_)
  refine j_aload0 hE dX9_lookMost_0 ?_
  refine j_iload3 hE dX9_lookMost_1 ?_
  refine j_puti hE pX9_91 dX9_lookMost_2 (by first | assumption | rfl) rfl rfl ?_
  refine j_aload0 hE dX9_lookMost_5 ?_
  refine j_iload4 hE dX9_lookMost_6 ?_
  refine j_puti hE pX9_94 dX9_lookMost_8 (by first | assumption | rfl) rfl rfl ?_
  refine j_aload0 hE dX9_lookMost_11 ?_
  refine j_iload5 hE dX9_lookMost_12 ?_
  refine j_puti hE pX9_97 dX9_lookMost_14 (by first | assumption | rfl) rfl rfl ?_
  refine j_aload0 hE dX9_lookMost_17 ?_
  refine j_iconst hE (-1) dX9_lookMost_18 kiconst_m1 ?_
  refine j_puti hE pX9_51 dX9_lookMost_19 (by first | assumption | rfl) rfl rfl ?_
  refine j_aload0 hE dX9_lookMost_22 ?_
  refine j_iconst hE (-1) dX9_lookMost_23 kiconst_m1 ?_
  refine j_puti hE pX9_55 dX9_lookMost_24 (by first | assumption | rfl) rfl rfl ?_
  refine j_aload0 hE dX9_lookMost_27 ?_
  refine j_aload1 hE dX9_lookMost_28 ?_
  refine j_aload2 hE dX9_lookMost_29 ?_
  refine j_iconst hE (nI 0) dX9_lookMost_30 kiconst_0 ?_
  refine j_iconst hE (nI 0) dX9_lookMost_31 kiconst_0 ?_
  refine j_S5v hE mX9_100 (c_tl l C hC pp h0 h1 h2 h3 h4 nl hll nc hle n hn n 0 (by omega) _ ee (nI 0) e0 e1 e2 (by rw [up2_ne _ _ _ (by omega), up2_ne _ _ _ (by omega), up2_ne _ _ _ (by omega), up2_ne _ _ _ (by omega), up2_ne _ _ _ (by omega)]; exact hnl) (by rw [up2_ne _ _ _ (by omega), up2_ne _ _ _ (by omega), up2_ne _ _ _ (by omega), up2_ne _ _ _ (by omega), up2_ne _ _ _ (by omega)]; exact hnc) (by simp [up2_same, upd])) dX9_lookMost_32 (by omega) (Nat.le_of_ble_eq_true rfl) ?_
  exact j_vret hE hR dX9_lookMost_35 (rfl)

theorem nI_dec {e : Nat} (h : e ≠ 0) : nI e - nI 1 = nI (e - 1) := by
  rw [show e = (e - 1) + 1 by omega]
  exact nI_pred _
theorem ring_sh : ∀ k, k < 16 → jsh (43 + 3 * k) = (0, 1) ∧ jsh (43 + 3 * k + 1) = (1, 25) ∧ jsh (43 + 3 * k + 2) = (1, 4) := by decide
def pushS (S : Sto) (ee e : Nat) : Sto :=
  let S1 := copS S (43 + 3 * e) ee
  let S2 := up2 S1 41 1 (if nI 16 ≤ S1 41 1 + nI 1 then nI 0 else S1 41 1 + nI 1)
  up2 S2 41 2 (minF (nI 16) (S2 41 2 + nI 1))
def popE (e : Nat) : Nat := if e = 0 then 15 else e - 1
def popS (S : Sto) (ee e : Nat) : Sto := copS (up2 (up2 S 41 2 (S 41 2 - nI 1)) 41 1 (nI (popE e))) ee (43 + 3 * popE e)
theorem popE_0 {x : Int32} {e : Nat} (h : x = nI e) (hl : e < 16) (h2 : x ≤ 0) : nI 15 = nI (popE e) := by
  rw [h] at h2
  have : e = 0 := by
    rcases Nat.eq_zero_or_pos e with q | q
    · exact q
    · exact absurd h2 (nI_nle q (by omega))
  subst this
  rfl
theorem popE_s {x : Int32} {e : Nat} (h : x = nI e) (h2 : ¬ x ≤ 0) : x - nI 1 = nI (popE e) := by
  rw [h] at h2 ⊢
  have hz : e ≠ 0 := fun q => by
    subst q
    exact h2 (by decide)
  rw [popE, if_neg hz]
  exact nI_dec hz
theorem popE_lt {e : Nat} (h : e < 16) : popE e < 16 := by unfold popE; split <;> omega
set_option maxHeartbeats 4000000 in
set_option maxRecDepth 100000 in
theorem c_X6_clear (l : Launch) (C : JC) (hC : JInj C) (S : Sto)  : Con l C yX6_clear cX6_clear 1 none 1 [.ref (C.2.1 41)] S none (up2 S 41 2 (nI 0)) := by
  refine con_of RX6 0 [some (.ref (C.2.1 41))] (by decide) rfl hC (Nat.le_of_ble_eq_true rfl) rfl (Nat.le_of_ble_eq_true rfl) (fun E hE hR => ?_)
  refine j_aload0 hE dX6_clear_0 ?_
  refine j_iconst hE (nI 0) dX6_clear_1 kiconst_0 ?_
  refine j_puti hE pX6_18 dX6_clear_2 (by first | assumption | rfl) rfl rfl ?_
  exact j_vret hE hR dX6_clear_5 (rfl)

set_option maxHeartbeats 4000000 in
set_option maxRecDepth 100000 in
theorem c_X6_push (l : Launch) (C : JC) (hC : JInj C) (S : Sto) (ee : Nat) (e0 : jsh ee = (0, 1)) (e1 : jsh (ee + 1) = (1, 25)) (e2 : jsh (ee + 2) = (1, 4)) (e : Nat) (he : S 41 1 = nI e) (hlt : e < 16) : Con l C yX6_push cX6_push 2 none 3 [.ref (C.2.1 41), .ref (C.2.1 ee)] S none (pushS S ee e) := by
  obtain ⟨s0, s1, s2⟩ := ring_sh e hlt
  refine con_of RX6 0 [some (.ref (C.2.1 41)), some (.ref (C.2.1 ee))] (by decide) rfl hC (Nat.le_of_ble_eq_true rfl) rfl (Nat.le_of_ble_eq_true rfl) (fun E hE hR => ?_)
  refine j_aload0 hE dX6_push_0 ?_
  refine j_geti hE fX6_22 dX6_push_1 (by first | assumption | rfl) ?_
  refine j_iflt hE 32 dX6_push_4 (by decide) (fun c4 => ?_) (fun c4 => ?_)
  · skip
    exact absurd c4 (by rw [he]; exact nI_pos (by omega))
  · skip
    refine j_aload0 hE dX6_push_7 ?_
    refine j_geti hE fX6_22 dX6_push_8 (by first | assumption | rfl) ?_
    refine j_aload0 hE dX6_push_11 ?_
    refine j_getr hE fX6_11 dX6_push_12 (by first | assumption | rfl) (rf_o (by first | assumption | rfl) (by decide)) ?_
    refine j_alen3 hE dX6_push_15 (nI 16) rfl rfl ?_
    refine j_icmpge hE 32 dX6_push_16 (by decide) (fun c16 => ?_) (fun c16 => ?_)
    · skip
      exact absurd c16 (by rw [he]; exact nI_ge (by omega) (by omega))
    · skip
      refine j_aload0 hE dX6_push_19 ?_
      refine j_getr hE fX6_11 dX6_push_20 (by first | assumption | rfl) (rf_o (by first | assumption | rfl) (by decide)) ?_
      refine j_aload0 hE dX6_push_23 ?_
      refine j_geti hE fX6_22 dX6_push_24 (by first | assumption | rfl) ?_
      refine j_aald3 (j := 43 + 3 * e) hE dX6_push_27 rfl (by rw [he]; exact vp_in_nI (by omega) (by decide)) (by rw [he, nI_clamp (by omega)]; rfl) ?_
      refine j_aload1 hE dX6_push_28 ?_
      refine j_V1v hE mX6_25 (c_X1_copyFrom l C hC _ (43 + 3 * e) s0 s1 s2 ee e0 e1 e2) dX6_push_29 (by first | assumption | rfl) (by decide) (Nat.le_of_ble_eq_true rfl) ?_
      refine j_aload0 hE dX6_push_32 ?_
      refine j_aload0 hE dX6_push_33 ?_
      refine j_geti hE fX6_22 dX6_push_34 (by first | assumption | rfl) ?_
      refine j_iconst hE (nI 1) dX6_push_37 kiconst_1 ?_
      refine j_iadd hE dX6_push_38 ?_
      refine j_bipush hE (nI 16) dX6_push_39 kbipush_16 ?_
      refine j_icmpge hE 53 dX6_push_41 (by decide) (fun c41 => ?_) (fun c41 => ?_)
      · skip
        refine j_iconst hE (nI 0) dX6_push_53 kiconst_0 ?_
        refine j_puti hE pX6_22 dX6_push_54 (by first | assumption | rfl) rfl rfl ?_
        refine j_aload0 hE dX6_push_57 ?_
        refine j_bipush hE (nI 16) dX6_push_58 kbipush_16 ?_
        refine j_aload0 hE dX6_push_60 ?_
        refine j_geti hE fX6_18 dX6_push_61 (by first | assumption | rfl) ?_
        refine j_iconst hE (nI 1) dX6_push_64 kiconst_1 ?_
        refine j_iadd hE dX6_push_65 ?_
        refine j_mmin hE mX6_29 dX6_push_66 (by decide) (Nat.le_of_ble_eq_true rfl) ?_
        refine j_puti hE pX6_18 dX6_push_69 (by first | assumption | rfl) rfl rfl ?_
        exact j_vret hE hR dX6_push_72 (by first | (rw [pushS, if_pos c41]; done) | (rw [pushS, if_neg c41]; done))
      · skip
        refine j_aload0 hE dX6_push_44 ?_
        refine j_geti hE fX6_22 dX6_push_45 (by first | assumption | rfl) ?_
        refine j_iconst hE (nI 1) dX6_push_48 kiconst_1 ?_
        refine j_iadd hE dX6_push_49 ?_
        refine j_goto hE 54 dX6_push_50 (by decide) ?_
        refine j_puti hE pX6_22 dX6_push_54 (by first | assumption | rfl) rfl rfl ?_
        refine j_aload0 hE dX6_push_57 ?_
        refine j_bipush hE (nI 16) dX6_push_58 kbipush_16 ?_
        refine j_aload0 hE dX6_push_60 ?_
        refine j_geti hE fX6_18 dX6_push_61 (by first | assumption | rfl) ?_
        refine j_iconst hE (nI 1) dX6_push_64 kiconst_1 ?_
        refine j_iadd hE dX6_push_65 ?_
        refine j_mmin hE mX6_29 dX6_push_66 (by decide) (Nat.le_of_ble_eq_true rfl) ?_
        refine j_puti hE pX6_18 dX6_push_69 (by first | assumption | rfl) rfl rfl ?_
        exact j_vret hE hR dX6_push_72 (by first | (rw [pushS, if_pos c41]; done) | (rw [pushS, if_neg c41]; done))

set_option maxHeartbeats 4000000 in
set_option maxRecDepth 100000 in
theorem c_X6_pop (l : Launch) (C : JC) (hC : JInj C) (S : Sto) (ee : Nat) (e0 : jsh ee = (0, 1)) (e1 : jsh (ee + 1) = (1, 25)) (e2 : jsh (ee + 2) = (1, 4)) (e : Nat) (he : S 41 1 = nI e) (hlt : e < 16) : Con l C yX6_pop cX6_pop 2 (some .boolean) 3 [.ref (C.2.1 41), .ref (C.2.1 ee)] S (some (.int (if 0 < S 41 2 then nI 1 else nI 0))) (if 0 < S 41 2 then popS S ee e else S) := by
  obtain ⟨s0, s1, s2⟩ := ring_sh (popE e) (popE_lt hlt)
  have he1 : up2 S 41 2 (S 41 2 - nI 1) 41 1 = nI e := by rw [up2_same, pk_un (by decide)]; exact he
  refine con_of RX6 0 [some (.ref (C.2.1 41)), some (.ref (C.2.1 ee))] (by decide) rfl hC (Nat.le_of_ble_eq_true rfl) rfl (Nat.le_of_ble_eq_true rfl) (fun E hE hR => ?_)
  refine j_aload0 hE dX6_pop_0 ?_
  refine j_geti hE fX6_18 dX6_pop_1 (by first | assumption | rfl) ?_
  refine j_ifgt hE 9 dX6_pop_4 (by decide) (fun c4 => ?_) (fun c4 => ?_)
  · skip
    refine j_aload0 hE dX6_pop_9 ?_
    refine j_dup hE dX6_pop_10 rfl ?_
    refine j_geti hE fX6_18 dX6_pop_11 (by first | assumption | rfl) ?_
    refine j_iconst hE (nI 1) dX6_pop_14 kiconst_1 ?_
    refine j_isub hE dX6_pop_15 ?_
    refine j_puti hE pX6_18 dX6_pop_16 (by first | assumption | rfl) rfl rfl ?_
    refine j_aload0 hE dX6_pop_19 ?_
    refine j_aload0 hE dX6_pop_20 ?_
    refine j_geti hE fX6_22 dX6_pop_21 (by first | assumption | rfl) ?_
    refine j_ifle hE 36 dX6_pop_24 (by decide) (fun c24 => ?_) (fun c24 => ?_)
    · skip
      refine j_bipush hE (nI 15) dX6_pop_36 kbipush_15 ?_
      refine j_top (y := nI (popE e)) (by first | exact popE_0 he1 hlt c24 | exact popE_s he1 c24) ?_
      refine j_puti hE pX6_22 dX6_pop_38 (by first | assumption | rfl) rfl rfl ?_
      refine j_aload0 hE dX6_pop_41 ?_
      refine j_geti hE fX6_22 dX6_pop_42 (by first | assumption | rfl) ?_
      refine j_iflt hE 73 dX6_pop_45 (by decide) (fun c45 => ?_) (fun c45 => ?_)
      · skip
        exact absurd c45 (by rw [up2_same, pk_us]; exact nI_pos (Nat.lt_trans (popE_lt hlt) (by decide)))
      · skip
        refine j_aload0 hE dX6_pop_48 ?_
        refine j_geti hE fX6_22 dX6_pop_49 (by first | assumption | rfl) ?_
        refine j_aload0 hE dX6_pop_52 ?_
        refine j_getr hE fX6_11 dX6_pop_53 (by first | assumption | rfl) (rf_o (by first | assumption | rfl) (by decide)) ?_
        refine j_alen3 hE dX6_pop_56 (nI 16) rfl rfl ?_
        refine j_icmpge hE 73 dX6_pop_57 (by decide) (fun c57 => ?_) (fun c57 => ?_)
        · skip
          exact absurd c57 (by rw [up2_same, pk_us]; exact nI_ge (popE_lt hlt) (by decide))
        · skip
          refine j_aload1 hE dX6_pop_60 ?_
          refine j_aload0 hE dX6_pop_61 ?_
          refine j_getr hE fX6_11 dX6_pop_62 (by first | assumption | rfl) (rf_o (by first | assumption | rfl) (by decide)) ?_
          refine j_aload0 hE dX6_pop_65 ?_
          refine j_geti hE fX6_22 dX6_pop_66 (by first | assumption | rfl) ?_
          refine j_aald3 (j := 43 + 3 * popE e) hE dX6_pop_69 rfl (by rw [up2_same, pk_us]; exact vp_in_nI (popE_lt hlt) (by decide)) (by rw [up2_same, pk_us, nI_clamp (Nat.lt_trans (popE_lt hlt) (by decide))]; rfl) ?_
          refine j_V1v hE mX6_25 (c_X1_copyFrom l C hC _ ee e0 e1 e2 (43 + 3 * popE e) s0 s1 s2) dX6_pop_70 (by first | assumption | rfl) (by decide) (Nat.le_of_ble_eq_true rfl) ?_
          refine j_iconst hE (nI 1) dX6_pop_73 kiconst_1 ?_
          exact j_zret hE hR dX6_pop_74 (by rw [if_pos c4]) (by rw [if_pos c4]; rfl) nar_c
    · skip
      refine j_aload0 hE dX6_pop_27 ?_
      refine j_geti hE fX6_22 dX6_pop_28 (by first | assumption | rfl) ?_
      refine j_iconst hE (nI 1) dX6_pop_31 kiconst_1 ?_
      refine j_isub hE dX6_pop_32 ?_
      refine j_goto hE 38 dX6_pop_33 (by decide) ?_
      refine j_top (y := nI (popE e)) (by first | exact popE_0 he1 hlt c24 | exact popE_s he1 c24) ?_
      refine j_puti hE pX6_22 dX6_pop_38 (by first | assumption | rfl) rfl rfl ?_
      refine j_aload0 hE dX6_pop_41 ?_
      refine j_geti hE fX6_22 dX6_pop_42 (by first | assumption | rfl) ?_
      refine j_iflt hE 73 dX6_pop_45 (by decide) (fun c45 => ?_) (fun c45 => ?_)
      · skip
        exact absurd c45 (by rw [up2_same, pk_us]; exact nI_pos (Nat.lt_trans (popE_lt hlt) (by decide)))
      · skip
        refine j_aload0 hE dX6_pop_48 ?_
        refine j_geti hE fX6_22 dX6_pop_49 (by first | assumption | rfl) ?_
        refine j_aload0 hE dX6_pop_52 ?_
        refine j_getr hE fX6_11 dX6_pop_53 (by first | assumption | rfl) (rf_o (by first | assumption | rfl) (by decide)) ?_
        refine j_alen3 hE dX6_pop_56 (nI 16) rfl rfl ?_
        refine j_icmpge hE 73 dX6_pop_57 (by decide) (fun c57 => ?_) (fun c57 => ?_)
        · skip
          exact absurd c57 (by rw [up2_same, pk_us]; exact nI_ge (popE_lt hlt) (by decide))
        · skip
          refine j_aload1 hE dX6_pop_60 ?_
          refine j_aload0 hE dX6_pop_61 ?_
          refine j_getr hE fX6_11 dX6_pop_62 (by first | assumption | rfl) (rf_o (by first | assumption | rfl) (by decide)) ?_
          refine j_aload0 hE dX6_pop_65 ?_
          refine j_geti hE fX6_22 dX6_pop_66 (by first | assumption | rfl) ?_
          refine j_aald3 (j := 43 + 3 * popE e) hE dX6_pop_69 rfl (by rw [up2_same, pk_us]; exact vp_in_nI (popE_lt hlt) (by decide)) (by rw [up2_same, pk_us, nI_clamp (Nat.lt_trans (popE_lt hlt) (by decide))]; rfl) ?_
          refine j_V1v hE mX6_25 (c_X1_copyFrom l C hC _ ee e0 e1 e2 (43 + 3 * popE e) s0 s1 s2) dX6_pop_70 (by first | assumption | rfl) (by decide) (Nat.le_of_ble_eq_true rfl) ?_
          refine j_iconst hE (nI 1) dX6_pop_73 kiconst_1 ?_
          exact j_zret hE hR dX6_pop_74 (by rw [if_pos c4]) (by rw [if_pos c4]; rfl) nar_c
  · skip
    refine j_iconst hE (nI 0) dX6_pop_7 kiconst_0 ?_
    exact j_zret hE hR dX6_pop_8 (by rw [if_neg c4]) (by rw [if_neg c4]) nar_c

set_option maxHeartbeats 4000000 in
set_option maxRecDepth 100000 in
theorem c_X0_clear (l : Launch) (C : JC) (hC : JInj C) (S : Sto)  : Con l C yX0_clear cX0_clear 1 none 1 [.ref (C.2.1 91)] S none (up2 S 91 2 (nI 0)) := by
  refine con_of RX0 0 [some (.ref (C.2.1 91))] (by decide) rfl hC (Nat.le_of_ble_eq_true rfl) rfl (Nat.le_of_ble_eq_true rfl) (fun E hE hR => ?_)
  refine j_aload0 hE dX0_clear_0 ?_
  refine j_iconst hE (nI 0) dX0_clear_1 kiconst_0 ?_
  refine j_puti hE pX0_18 dX0_clear_2 (by first | assumption | rfl) rfl rfl ?_
  exact j_vret hE hR dX0_clear_5 (rfl)

def addBS (S : Sto) (x w : Int32) : Sto :=
  let S1 := putS 15 S 92 (S 91 2) x
  let S2 := putS 15 S1 93 (S1 91 2) w
  up2 S2 91 2 (S2 91 2 + nI 1)
set_option maxHeartbeats 4000000 in
set_option maxRecDepth 100000 in
theorem c_X0_add (l : Launch) (C : JC) (hC : JInj C) (S : Sto) (x w : Int32) : Con l C yX0_add cX0_add 3 (some .int) 2 [.ref (C.2.1 91), .int x, .int w] S (some (.int (if S 91 2 < nI 15 then addBS S x w 91 2 else -1000000004))) (if S 91 2 < nI 15 then addBS S x w else S) := by
  refine con_of RX0 0 [some (.ref (C.2.1 91)), some (.int x), some (.int w)] (by decide) rfl hC (Nat.le_of_ble_eq_true rfl) rfl (Nat.le_of_ble_eq_true rfl) (fun E hE hR => ?_)
  refine j_aload0 hE dX0_add_0 ?_
  refine j_geti hE fX0_18 dX0_add_1 (by first | assumption | rfl) ?_
  refine j_bipush hE (nI 15) dX0_add_4 kbipush_15 ?_
  refine j_icmplt hE 12 dX0_add_6 (by decide) (fun c6 => ?_) (fun c6 => ?_)
  · skip
    refine j_aload0 hE dX0_add_12 ?_
    refine j_getr hE fX0_9 dX0_add_13 (by first | assumption | rfl) (rf_o (by first | assumption | rfl) (by decide)) ?_
    refine j_aload0 hE dX0_add_16 ?_
    refine j_geti hE fX0_18 dX0_add_17 (by first | assumption | rfl) ?_
    refine j_iload1 hE dX0_add_20 ?_
    refine j_SN3v hE mX0_23 (c_X10_put l C hC _ 92 15 rfl (by decide) _ _) dX0_add_21 (by decide) (Nat.le_of_ble_eq_true rfl) ?_
    refine j_aload0 hE dX0_add_24 ?_
    refine j_getr hE fX0_15 dX0_add_25 (by first | assumption | rfl) (rf_o (by first | assumption | rfl) (by decide)) ?_
    refine j_aload0 hE dX0_add_28 ?_
    refine j_geti hE fX0_18 dX0_add_29 (by first | assumption | rfl) ?_
    refine j_iload2 hE dX0_add_32 ?_
    refine j_SN3v hE mX0_23 (c_X10_put l C hC _ 93 15 rfl (by decide) _ _) dX0_add_33 (by decide) (Nat.le_of_ble_eq_true rfl) ?_
    refine j_aload0 hE dX0_add_36 ?_
    refine j_dup hE dX0_add_37 rfl ?_
    refine j_geti hE fX0_18 dX0_add_38 (by first | assumption | rfl) ?_
    refine j_iconst hE (nI 1) dX0_add_41 kiconst_1 ?_
    refine j_iadd hE dX0_add_42 ?_
    refine j_puti hE pX0_18 dX0_add_43 (by first | assumption | rfl) rfl rfl ?_
    refine j_aload0 hE dX0_add_46 ?_
    refine j_geti hE fX0_18 dX0_add_47 (by first | assumption | rfl) ?_
    exact j_iret hE hR dX0_add_50 (by rw [if_pos c6]; rfl) (by rw [if_pos c6]; rfl)
  · skip
    refine j_ldc hE dX0_add_9 kX0_22 ?_
    exact j_iret hE hR dX0_add_11 (by rw [if_neg c6]) (by rw [if_neg c6])

def fwP (S : Sto) (ee : Nat) : Nat → Bool := fun k => !decide (pickF 25 (S (ee + 1)) (pickF 15 (S 92) (nI k)) = pickF 15 (S 93) (nI k))
set_option maxHeartbeats 4000000 in
set_option maxRecDepth 100000 in
theorem c_X0_firstWrong (l : Launch) (C : JC) (hC : JInj C) (S : Sto) (ee : Nat) (e0 : jsh ee = (0, 1)) (e1 : jsh (ee + 1) = (1, 25)) (e2 : jsh (ee + 2) = (1, 4)) (n : Nat) (hn : S 91 2 = nI n) (hle : n ≤ 15) : Con l C yX0_firstWrong cX0_firstWrong 3 (some .int) 2 [.ref (C.2.1 91), .ref (C.2.1 ee)] S (some (.int (if fnd (fwP S ee) n 0 = n then -1 else nI (fnd (fwP S ee) n 0)))) (S) := by
  refine con_of RX0 1 [some (.ref (C.2.1 91)), some (.ref (C.2.1 ee)), none] (by decide) rfl hC (Nat.le_of_ble_eq_true rfl) rfl (Nat.le_of_ble_eq_true rfl) (fun E hE hR => ?_)
  refine j_iconst hE (nI 0) dX0_firstWrong_0 kiconst_0 ?_
  refine j_istore2 hE dX0_firstWrong_1 rfl ?_
  have L2 : ∀ (fu : Nat) (i : Nat), n - i < fu → (i ≤ n) → (fnd (fwP S ee) (n - i) i = fnd (fwP S ee) n 0) → J C E S 2 [some (.ref (C.2.1 91)), some (.ref (C.2.1 ee)), some (.int (nI i))] [] := by
    intro fu
    induction fu with
    | zero => intro i hm; omega
    | succ fu ih =>
      intro i hm hi hq
      refine j_iload2 hE dX0_firstWrong_2 ?_
      refine j_aload0 hE dX0_firstWrong_3 ?_
      refine j_geti hE fX0_18 dX0_firstWrong_4 (by first | assumption | rfl) ?_
      refine j_icmpge hE 44 dX0_firstWrong_7 (by decide) (fun c7 => ?_) (fun c7 => ?_)
      · skip
        rw [hn] at c7
        have c7 := (nI_leI (by omega) (by omega)).mp c7
        have hii : i = n := by omega
        subst hii
        rw [Nat.sub_self, fnd] at hq
        refine j_iconst hE (-1) dX0_firstWrong_44 kiconst_m1 ?_
        exact j_iret hE hR dX0_firstWrong_45 (by rw [← hq, if_pos rfl]) (rfl)
      · skip
        rw [hn] at c7
        have c7 : i < n := Nat.lt_of_not_le (fun q => c7 (nI_le q (by omega)))
        refine j_aload1 hE dX0_firstWrong_10 ?_
        refine j_getr hE fX0_27 dX0_firstWrong_11 (by first | assumption | rfl) (rf_o (by first | assumption | rfl) (by decide)) ?_
        refine j_aload0 hE dX0_firstWrong_14 ?_
        refine j_getr hE fX0_9 dX0_firstWrong_15 (by first | assumption | rfl) (rf_o (by first | assumption | rfl) (by decide)) ?_
        refine j_iload2 hE dX0_firstWrong_18 ?_
        refine j_SN2i hE mX0_32 (c_X10_pick l C hC _ 92 15 rfl (by decide) _) dX0_firstWrong_19 (by decide) (Nat.le_of_ble_eq_true rfl) ?_
        refine j_SN2i hE mX0_32 (c_X10_pick l C hC _ (ee + 1) 25 e1 (by decide) _) dX0_firstWrong_22 (by decide) (Nat.le_of_ble_eq_true rfl) ?_
        refine j_aload0 hE dX0_firstWrong_25 ?_
        refine j_getr hE fX0_15 dX0_firstWrong_26 (by first | assumption | rfl) (rf_o (by first | assumption | rfl) (by decide)) ?_
        refine j_iload2 hE dX0_firstWrong_29 ?_
        refine j_SN2i hE mX0_32 (c_X10_pick l C hC _ 93 15 rfl (by decide) _) dX0_firstWrong_30 (by decide) (Nat.le_of_ble_eq_true rfl) ?_
        refine j_icmpeq hE 38 dX0_firstWrong_33 (by decide) (fun c33 => ?_) (fun c33 => ?_)
        · skip
          refine j_iinc2 hE (nI (i + 1)) dX0_firstWrong_38 (nI_inc _) rfl ?_
          refine j_goto hE 2 dX0_firstWrong_41 (by decide) ?_
          exact ih (i + 1) (by omega) (by omega) (by rw [← hq, show n - i = n - (i + 1) + 1 by omega, fnd, if_neg (by simp [fwP, c33])])
        · skip
          have hq2 : i = fnd (fwP S ee) n 0 := by rw [← hq, show n - i = n - (i + 1) + 1 by omega, fnd, if_pos (by simp [fwP, c33])]
          refine j_iload2 hE dX0_firstWrong_36 ?_
          exact j_iret hE hR dX0_firstWrong_37 (by rw [← hq2, if_neg (by omega)]) (rfl)
  exact L2 (n + 1) 0 (by omega) (by omega) (by rw [Nat.sub_zero])

