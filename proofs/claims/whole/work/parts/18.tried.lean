set_option maxHeartbeats 4000000 in
set_option maxRecDepth 100000 in
theorem c_X10_shown (l : Launch) (C : JC) (hC : JInj C) (S : Sto) (pp : Nat) (hpl : (S 0 8).toNatClampNeg = pp) (h0 : jsh pp = (0, 6)) (h1 : jsh (pp + 1) = (1, 4)) (h2 : jsh (pp + 2) = (1, 6)) (h3 : jsh (pp + 3) = (1, 6)) (h4 : jsh (pp + 4) = (1, 5)) (nl : Nat) (hnl : S pp 8 = nI nl) (hll : nl ≤ 4) (nc : Nat) (hnc : S pp 9 = nI nc) (hle : nc ≤ 6) (n r : Int32) : Con l C yX10_shown cX10_shown 3 (some .int) 8 [.ref (C.2.1 0), .int n, .int r] S (some (.int (if outP n (nI 0) (nI 60) ∨ outP r (nI 0) (nI 9) then -1000000002 else if plCells S pp = 0 then -1000000003 else marksF (mbS S pp 3 nl nc r n.toNatClampNeg 14) 25))) (if outP n (nI 0) (nI 60) ∨ outP r (nI 0) (nI 9) then S else if plCells S pp = 0 then S else mbS S pp 3 nl nc r n.toNatClampNeg) := by
  refine con_of RX10 0 [some (.ref (C.2.1 0)), some (.int n), some (.int r)] (by decide) rfl hC (Nat.le_of_ble_eq_true rfl) rfl (Nat.le_of_ble_eq_true rfl) (fun E hE hR => ?_)
  refine j_iload1 hE dX10_shown_0 ?_
  refine j_iconst hE (nI 0) dX10_shown_1 kiconst_0 ?_
  refine j_bipush hE (nI 60) dX10_shown_2 kbipush_60 ?_
  refine j_S3i hE mX10_75 (c_X10_outside l C hC _ _ _ _) dX10_shown_4 (by decide) (Nat.le_of_ble_eq_true rfl) ?_
  first | refine j_ifneP hE 20 dX10_shown_7 (by decide) (fun c7 => ?_) (fun c7 => ?_) | refine j_ifne hE 20 dX10_shown_7 (by decide) (fun c7 => ?_) (fun c7 => ?_)
  · skip
    refine j_ldc hE dX10_shown_20 kX10_79 ?_
    exact j_iret hE hR dX10_shown_22 (by first
        | (rw [if_pos (Or.inl c7)]; first | done | rfl)
        | (rw [if_pos (Or.inr c17)]; first | done | rfl)) (by first
        | (rw [if_pos (Or.inl c7)]; first | done | rfl)
        | (rw [if_pos (Or.inr c17)]; first | done | rfl))
  · skip
    refine j_iload2 hE dX10_shown_10 ?_
    refine j_iconst hE (nI 0) dX10_shown_11 kiconst_0 ?_
    refine j_bipush hE (nI 9) dX10_shown_12 kbipush_9 ?_
    refine j_S3i hE mX10_75 (c_X10_outside l C hC _ _ _ _) dX10_shown_14 (by decide) (Nat.le_of_ble_eq_true rfl) ?_
    first | refine j_ifeqP hE 23 dX10_shown_17 (by decide) (fun c17 => ?_) (fun c17 => ?_) | refine j_ifeq hE 23 dX10_shown_17 (by decide) (fun c17 => ?_) (fun c17 => ?_)
    · skip
      refine j_aload0 hE dX10_shown_23 ?_
      refine j_V0i hE mX10_219 (c_X10_noWall l C hC _ pp hpl h0 h1 h2 h3 h4) dX10_shown_24 (by first | assumption | rfl) (by decide) (Nat.le_of_ble_eq_true rfl) ?_
      first | refine j_ifeqP hE 35 dX10_shown_27 (by decide) (fun c27 => ?_) (fun c27 => ?_) | refine j_ifeq hE 35 dX10_shown_27 (by decide) (fun c27 => ?_) (fun c27 => ?_)
      · skip
        obtain ⟨k, hk1, hk2, rfl⟩ := out_n (by decide) c7 (by decide)
        refine j_aload0 hE dX10_shown_35 ?_
        refine j_getr hE fX10_33 dX10_shown_36 (j := 9) (by first | assumption | rfl) (rfl) ?_
        refine j_aload0 hE dX10_shown_39 ?_
        refine j_getr hE fX10_67 dX10_shown_40 (j := pp) (by first | assumption | rfl) (by assumption) ?_
        refine j_aload0 hE dX10_shown_43 ?_
        refine j_getr hE fX10_19 dX10_shown_44 (j := 3) (by first | assumption | rfl) (rfl) ?_
        refine j_iload1 hE dX10_shown_47 ?_
        refine j_iload2 hE dX10_shown_48 ?_
        refine j_V4i hE mX10_250 (c_X9_marksBehind l C hC _ pp h0 h1 h2 h3 h4 3 rfl rfl rfl nl hnl hll nc hnc hle k (by omega) r) dX10_shown_49 (by first | assumption | rfl) (by decide) (Nat.le_of_ble_eq_true rfl) ?_
        exact j_iret hE hR dX10_shown_52 (by first
            | (rw [if_neg (fun z => z.elim c7 c17), if_pos c27]; first | done | rfl)
            | (rw [if_neg (fun z => z.elim c7 c17), if_neg c27, nI_clamp (by omega)]; first | done | rfl)) (by first
            | (rw [if_neg (fun z => z.elim c7 c17), if_pos c27]; first | done | rfl)
            | (rw [if_neg (fun z => z.elim c7 c17), if_neg c27, nI_clamp (by omega)]; first | done | rfl))
      · skip
        refine j_ldc hE dX10_shown_30 kX10_223 ?_
        refine j_goto hE 52 dX10_shown_32 (by decide) ?_
        exact j_iret hE hR dX10_shown_52 (by first
            | (rw [if_neg (fun z => z.elim c7 c17), if_pos c27]; first | done | rfl)
            | (rw [if_neg (fun z => z.elim c7 c17), if_neg c27, nI_clamp (by omega)]; first | done | rfl)) (by first
            | (rw [if_neg (fun z => z.elim c7 c17), if_pos c27]; first | done | rfl)
            | (rw [if_neg (fun z => z.elim c7 c17), if_neg c27, nI_clamp (by omega)]; first | done | rfl))
    · skip
      refine j_ldc hE dX10_shown_20 kX10_79 ?_
      exact j_iret hE hR dX10_shown_22 (by first
          | (rw [if_pos (Or.inl c7)]; first | done | rfl)
          | (rw [if_pos (Or.inr c17)]; first | done | rfl)) (by first
          | (rw [if_pos (Or.inl c7)]; first | done | rfl)
          | (rw [if_pos (Or.inr c17)]; first | done | rfl))

set_option maxHeartbeats 4000000 in
set_option maxRecDepth 100000 in
theorem c_X10_first (l : Launch) (C : JC) (hC : JInj C) (S : Sto) (pp : Nat) (hpl : (S 0 8).toNatClampNeg = pp) (h0 : jsh pp = (0, 6)) (h1 : jsh (pp + 1) = (1, 4)) (h2 : jsh (pp + 2) = (1, 6)) (h3 : jsh (pp + 3) = (1, 6)) (h4 : jsh (pp + 4) = (1, 5)) (nl : Nat) (hnl : S pp 8 = nI nl) (hll : nl ≤ 4) (nc : Nat) (hnc : S pp 9 = nI nc) (hle : nc ≤ 6) (m r : Int32) : Con l C yX10_first cX10_first 3 (some .int) 8 [.ref (C.2.1 0), .int m, .int r] S (some (.int (if outP m (nI 0) (nI 25) ∨ outP r (nI 0) (nI 9) then -1000000002 else if plCells S pp = 0 then -1000000003 else (if fnd (dtmP S pp 3 nl nc m r) 61 0 = 61 then -1 else nI (fnd (dtmP S pp 3 nl nc m r) 61 0))))) (if outP m (nI 0) (nI 25) ∨ outP r (nI 0) (nI 9) then S else if plCells S pp = 0 then S else mbS S pp 3 nl nc r (fnd (dtmP S pp 3 nl nc m r) 61 0)) := by
  refine con_of RX10 0 [some (.ref (C.2.1 0)), some (.int m), some (.int r)] (by decide) rfl hC (Nat.le_of_ble_eq_true rfl) rfl (Nat.le_of_ble_eq_true rfl) (fun E hE hR => ?_)
  refine j_iload1 hE dX10_first_0 ?_
  refine j_iconst hE (nI 0) dX10_first_1 kiconst_0 ?_
  refine j_bipush hE (nI 25) dX10_first_2 kbipush_25 ?_
  refine j_S3i hE mX10_75 (c_X10_outside l C hC _ _ _ _) dX10_first_4 (by decide) (Nat.le_of_ble_eq_true rfl) ?_
  first | refine j_ifneP hE 20 dX10_first_7 (by decide) (fun c7 => ?_) (fun c7 => ?_) | refine j_ifne hE 20 dX10_first_7 (by decide) (fun c7 => ?_) (fun c7 => ?_)
  · skip
    refine j_ldc hE dX10_first_20 kX10_79 ?_
    exact j_iret hE hR dX10_first_22 (by first
        | (rw [if_pos (Or.inl c7)]; first | done | rfl)
        | (rw [if_pos (Or.inr c17)]; first | done | rfl)) (by first
        | (rw [if_pos (Or.inl c7)]; first | done | rfl)
        | (rw [if_pos (Or.inr c17)]; first | done | rfl))
  · skip
    refine j_iload2 hE dX10_first_10 ?_
    refine j_iconst hE (nI 0) dX10_first_11 kiconst_0 ?_
    refine j_bipush hE (nI 9) dX10_first_12 kbipush_9 ?_
    refine j_S3i hE mX10_75 (c_X10_outside l C hC _ _ _ _) dX10_first_14 (by decide) (Nat.le_of_ble_eq_true rfl) ?_
    first | refine j_ifeqP hE 23 dX10_first_17 (by decide) (fun c17 => ?_) (fun c17 => ?_) | refine j_ifeq hE 23 dX10_first_17 (by decide) (fun c17 => ?_) (fun c17 => ?_)
    · skip
      refine j_aload0 hE dX10_first_23 ?_
      refine j_V0i hE mX10_219 (c_X10_noWall l C hC _ pp hpl h0 h1 h2 h3 h4) dX10_first_24 (by first | assumption | rfl) (by decide) (Nat.le_of_ble_eq_true rfl) ?_
      first | refine j_ifeqP hE 35 dX10_first_27 (by decide) (fun c27 => ?_) (fun c27 => ?_) | refine j_ifeq hE 35 dX10_first_27 (by decide) (fun c27 => ?_) (fun c27 => ?_)
      · skip
        refine j_aload0 hE dX10_first_35 ?_
        refine j_getr hE fX10_33 dX10_first_36 (j := 9) (by first | assumption | rfl) (rfl) ?_
        refine j_aload0 hE dX10_first_39 ?_
        refine j_getr hE fX10_67 dX10_first_40 (j := pp) (by first | assumption | rfl) (by assumption) ?_
        refine j_aload0 hE dX10_first_43 ?_
        refine j_getr hE fX10_19 dX10_first_44 (j := 3) (by first | assumption | rfl) (rfl) ?_
        refine j_iload1 hE dX10_first_47 ?_
        refine j_iload2 hE dX10_first_48 ?_
        refine j_V4i hE mX10_254 (c_X9_daysTillMarks l C hC _ pp h0 h1 h2 h3 h4 3 rfl rfl rfl nl hnl hll nc hnc hle m r) dX10_first_49 (by first | assumption | rfl) (by decide) (Nat.le_of_ble_eq_true rfl) ?_
        exact j_iret hE hR dX10_first_52 (by first
            | (exact ((if_neg (fun z => z.elim c7 c17)).trans (if_neg c27)).symm)
            | (exact ((if_neg (fun z => z.elim c7 c17)).trans (if_pos c27)).symm)) (by first
            | (rw [if_neg (fun z => z.elim c7 c17), if_pos c27]; first | done | rfl)
            | (rw [if_neg (fun z => z.elim c7 c17), if_neg c27]; first | done | rfl))
      · skip
        refine j_ldc hE dX10_first_30 kX10_223 ?_
        refine j_goto hE 52 dX10_first_32 (by decide) ?_
        exact j_iret hE hR dX10_first_52 (by first
            | (exact ((if_neg (fun z => z.elim c7 c17)).trans (if_neg c27)).symm)
            | (exact ((if_neg (fun z => z.elim c7 c17)).trans (if_pos c27)).symm)) (by first
            | (rw [if_neg (fun z => z.elim c7 c17), if_pos c27]; first | done | rfl)
            | (rw [if_neg (fun z => z.elim c7 c17), if_neg c27]; first | done | rfl))
    · skip
      refine j_ldc hE dX10_first_20 kX10_79 ?_
      exact j_iret hE hR dX10_first_22 (by first
          | (rw [if_pos (Or.inl c7)]; first | done | rfl)
          | (rw [if_pos (Or.inr c17)]; first | done | rfl)) (by first
          | (rw [if_pos (Or.inl c7)]; first | done | rfl)
          | (rw [if_pos (Or.inr c17)]; first | done | rfl))

set_option maxHeartbeats 4000000 in
set_option maxRecDepth 100000 in
theorem c_X10_leadTo (l : Launch) (C : JC) (hC : JInj C) (S : Sto) (pp : Nat) (hpl : (S 0 8).toNatClampNeg = pp) (h0 : jsh pp = (0, 6)) (h1 : jsh (pp + 1) = (1, 4)) (h2 : jsh (pp + 2) = (1, 6)) (h3 : jsh (pp + 3) = (1, 6)) (h4 : jsh (pp + 4) = (1, 5)) (nl : Nat) (hnl : S pp 8 = nI nl) (hll : nl ≤ 4) (nc : Nat) (hnc : S pp 9 = nI nc) (hle : nc ≤ 6) (nn : Nat) (hnn : plCells S pp = nI nn) (hn25 : nn ≤ 25) (l0 f n r w : Int32) : Con l C yX10_leadTo cX10_leadTo 6 (some .int) 8 [.ref (C.2.1 0), .int l0, .int f, .int n, .int r, .int w] S (some (.int (if ¬ (hasP (S pp 8) l0 ∧ hasP (S pp 10) f) then -1000000001 else if outP n (nI 1) (nI 20) ∨ outP r (nI 0) (nI 9) ∨ outP w (nI 0) (nI 1) then -1000000002 else (if w = 0 then lbS S pp 3 nl nc l0 (pickF 5 (S (pp + 4)) f) r n.toNatClampNeg nn 9 6 else lbS S pp 3 nl nc l0 (pickF 5 (S (pp + 4)) f) r n.toNatClampNeg nn 9 7)))) (if ¬ (hasP (S pp 8) l0 ∧ hasP (S pp 10) f) then S else if outP n (nI 1) (nI 20) ∨ outP r (nI 0) (nI 9) ∨ outP w (nI 0) (nI 1) then S else lbS S pp 3 nl nc l0 (pickF 5 (S (pp + 4)) f) r n.toNatClampNeg nn) := by
  refine con_of RX10 0 [some (.ref (C.2.1 0)), some (.int l0), some (.int f), some (.int n), some (.int r), some (.int w)] (by decide) rfl hC (Nat.le_of_ble_eq_true rfl) rfl (Nat.le_of_ble_eq_true rfl) (fun E hE hR => ?_)
  refine j_aload0 hE dX10_leadTo_0 ?_
  refine j_getr hE fX10_67 dX10_leadTo_1 (j := pp) (by first | assumption | rfl) (by assumption) ?_
  refine j_iload1 hE dX10_leadTo_4 ?_
  refine j_V1i hE mX10_186 (c_X7_hasLeak l C hC _ pp h0 l0) dX10_leadTo_5 (by first | assumption | rfl) (by decide) (Nat.le_of_ble_eq_true rfl) ?_
  first | refine j_ifeqP hE 22 dX10_leadTo_8 (by decide) (fun c8 => ?_) (fun c8 => ?_) | refine j_ifeq hE 22 dX10_leadTo_8 (by decide) (fun c8 => ?_) (fun c8 => ?_)
  · skip
    refine j_ldc hE dX10_leadTo_22 kX10_185 ?_
    exact j_iret hE hR dX10_leadTo_24 (by first
        | (rw [if_pos (fun z => c8 z.1)]; first | done | rfl)
        | (rw [if_pos (fun z => c19 z.2)]; first | done | rfl)) (by first
        | (rw [if_pos (fun z => c8 z.1)]; first | done | rfl)
        | (rw [if_pos (fun z => c19 z.2)]; first | done | rfl))
  · skip
    refine j_aload0 hE dX10_leadTo_11 ?_
    refine j_getr hE fX10_67 dX10_leadTo_12 (j := pp) (by first | assumption | rfl) (by assumption) ?_
    refine j_iload2 hE dX10_leadTo_15 ?_
    refine j_V1i hE mX10_204 (c_X7_hasFace l C hC _ pp h0 f) dX10_leadTo_16 (by first | assumption | rfl) (by decide) (Nat.le_of_ble_eq_true rfl) ?_
    first | refine j_ifneP hE 25 dX10_leadTo_19 (by decide) (fun c19 => ?_) (fun c19 => ?_) | refine j_ifne hE 25 dX10_leadTo_19 (by decide) (fun c19 => ?_) (fun c19 => ?_)
    · skip
      refine j_iload3 hE dX10_leadTo_25 ?_
      refine j_iconst hE (nI 1) dX10_leadTo_26 kiconst_1 ?_
      refine j_bipush hE (nI 20) dX10_leadTo_27 kbipush_20 ?_
      refine j_S3i hE mX10_75 (c_X10_outside l C hC _ _ _ _) dX10_leadTo_29 (by decide) (Nat.le_of_ble_eq_true rfl) ?_
      first | refine j_ifneP hE 56 dX10_leadTo_32 (by decide) (fun c32 => ?_) (fun c32 => ?_) | refine j_ifne hE 56 dX10_leadTo_32 (by decide) (fun c32 => ?_) (fun c32 => ?_)
      · skip
        refine j_ldc hE dX10_leadTo_56 kX10_79 ?_
        exact j_iret hE hR dX10_leadTo_58 (by first
            | (rw [if_neg (fun z => z ⟨c8, c19⟩), if_pos (Or.inl c32)]; first | done | rfl)
            | (rw [if_neg (fun z => z ⟨c8, c19⟩), if_pos (Or.inr (Or.inl c43))]; first | done | rfl)
            | (rw [if_neg (fun z => z ⟨c8, c19⟩), if_pos (Or.inr (Or.inr c53))]; first | done | rfl)) (by first
            | (rw [if_neg (fun z => z ⟨c8, c19⟩), if_pos (Or.inl c32)]; first | done | rfl)
            | (rw [if_neg (fun z => z ⟨c8, c19⟩), if_pos (Or.inr (Or.inl c43))]; first | done | rfl)
            | (rw [if_neg (fun z => z ⟨c8, c19⟩), if_pos (Or.inr (Or.inr c53))]; first | done | rfl))
      · skip
        refine j_iload4 hE dX10_leadTo_35 ?_
        refine j_iconst hE (nI 0) dX10_leadTo_37 kiconst_0 ?_
        refine j_bipush hE (nI 9) dX10_leadTo_38 kbipush_9 ?_
        refine j_S3i hE mX10_75 (c_X10_outside l C hC _ _ _ _) dX10_leadTo_40 (by decide) (Nat.le_of_ble_eq_true rfl) ?_
        first | refine j_ifneP hE 56 dX10_leadTo_43 (by decide) (fun c43 => ?_) (fun c43 => ?_) | refine j_ifne hE 56 dX10_leadTo_43 (by decide) (fun c43 => ?_) (fun c43 => ?_)
        · skip
          refine j_ldc hE dX10_leadTo_56 kX10_79 ?_
          exact j_iret hE hR dX10_leadTo_58 (by first
              | (rw [if_neg (fun z => z ⟨c8, c19⟩), if_pos (Or.inl c32)]; first | done | rfl)
              | (rw [if_neg (fun z => z ⟨c8, c19⟩), if_pos (Or.inr (Or.inl c43))]; first | done | rfl)
              | (rw [if_neg (fun z => z ⟨c8, c19⟩), if_pos (Or.inr (Or.inr c53))]; first | done | rfl)) (by first
              | (rw [if_neg (fun z => z ⟨c8, c19⟩), if_pos (Or.inl c32)]; first | done | rfl)
              | (rw [if_neg (fun z => z ⟨c8, c19⟩), if_pos (Or.inr (Or.inl c43))]; first | done | rfl)
              | (rw [if_neg (fun z => z ⟨c8, c19⟩), if_pos (Or.inr (Or.inr c53))]; first | done | rfl))
        · skip
          refine j_iload5 hE dX10_leadTo_46 ?_
          refine j_iconst hE (nI 0) dX10_leadTo_48 kiconst_0 ?_
          refine j_iconst hE (nI 1) dX10_leadTo_49 kiconst_1 ?_
          refine j_S3i hE mX10_75 (c_X10_outside l C hC _ _ _ _) dX10_leadTo_50 (by decide) (Nat.le_of_ble_eq_true rfl) ?_
          first | refine j_ifeqP hE 59 dX10_leadTo_53 (by decide) (fun c53 => ?_) (fun c53 => ?_) | refine j_ifeq hE 59 dX10_leadTo_53 (by decide) (fun c53 => ?_) (fun c53 => ?_)
          · skip
            obtain ⟨k, hk1, hk2, rfl⟩ := out_n (by decide) c32 (by decide)
            refine j_aload0 hE dX10_leadTo_59 ?_
            refine j_getr hE fX10_33 dX10_leadTo_60 (j := 9) (by first | assumption | rfl) (rfl) ?_
            refine j_aload0 hE dX10_leadTo_63 ?_
            refine j_getr hE fX10_67 dX10_leadTo_64 (j := pp) (by first | assumption | rfl) (by assumption) ?_
            refine j_aload0 hE dX10_leadTo_67 ?_
            refine j_getr hE fX10_19 dX10_leadTo_68 (j := 3) (by first | assumption | rfl) (rfl) ?_
            refine j_iload1 hE dX10_leadTo_71 ?_
            refine j_aload0 hE dX10_leadTo_72 ?_
            refine j_getr hE fX10_67 dX10_leadTo_73 (j := pp) (by first | assumption | rfl) (by assumption) ?_
            refine j_getr hE fX10_207 dX10_leadTo_76 (by first | assumption | rfl) (rf_o (by first | assumption | rfl) (by decide)) ?_
            refine j_iload2 hE dX10_leadTo_79 ?_
            refine j_S2i hE mX10_181 (c_X10_pick l C hC _ (pp + 4) 5 h4 (by decide) f) dX10_leadTo_80 (by decide) (Nat.le_of_ble_eq_true rfl) ?_
            refine j_iload3 hE dX10_leadTo_83 ?_
            refine j_iload4 hE dX10_leadTo_84 ?_
            refine j_V6v hE mX10_257 (c_X9_leadBest l C hC _ pp h0 h1 h2 h3 h4 3 rfl rfl rfl nl hnl hll nc hnc hle nn hnn hn25 _ _ _ k (by omega)) dX10_leadTo_86 (by first | assumption | rfl) (by decide) (Nat.le_of_ble_eq_true rfl) ?_
            refine j_iload5 hE dX10_leadTo_89 ?_
            refine j_ifne hE 104 dX10_leadTo_91 (by decide) (fun c91 => ?_) (fun c91 => ?_)
            · skip
              refine j_aload0 hE dX10_leadTo_104 ?_
              refine j_getr hE fX10_33 dX10_leadTo_105 (j := 9) (by first | assumption | rfl) (rfl) ?_
              refine j_geti hE fX10_264 dX10_leadTo_108 (by first | assumption | rfl) ?_
              exact j_iret hE hR dX10_leadTo_111 (by first
                  | (rw [if_neg (fun z => z ⟨c8, c19⟩), if_neg (fun z => z.elim c32 (fun y => y.elim c43 c53)), nI_clamp (by omega), if_pos c91]; first | done | rfl)
                  | (rw [if_neg (fun z => z ⟨c8, c19⟩), if_neg (fun z => z.elim c32 (fun y => y.elim c43 c53)), nI_clamp (by omega), if_neg c91]; first | done | rfl)) (by first
                  | (rw [if_neg (fun z => z ⟨c8, c19⟩), if_neg (fun z => z.elim c32 (fun y => y.elim c43 c53)), nI_clamp (by omega)]; first | done | rfl))
            · skip
              refine j_aload0 hE dX10_leadTo_94 ?_
              refine j_getr hE fX10_33 dX10_leadTo_95 (j := 9) (by first | assumption | rfl) (rfl) ?_
              refine j_geti hE fX10_261 dX10_leadTo_98 (by first | assumption | rfl) ?_
              refine j_goto hE 111 dX10_leadTo_101 (by decide) ?_
              exact j_iret hE hR dX10_leadTo_111 (by first
                  | (rw [if_neg (fun z => z ⟨c8, c19⟩), if_neg (fun z => z.elim c32 (fun y => y.elim c43 c53)), nI_clamp (by omega), if_pos c91]; first | done | rfl)
                  | (rw [if_neg (fun z => z ⟨c8, c19⟩), if_neg (fun z => z.elim c32 (fun y => y.elim c43 c53)), nI_clamp (by omega), if_neg c91]; first | done | rfl)) (by first
                  | (rw [if_neg (fun z => z ⟨c8, c19⟩), if_neg (fun z => z.elim c32 (fun y => y.elim c43 c53)), nI_clamp (by omega)]; first | done | rfl))
          · skip
            refine j_ldc hE dX10_leadTo_56 kX10_79 ?_
            exact j_iret hE hR dX10_leadTo_58 (by first
                | (rw [if_neg (fun z => z ⟨c8, c19⟩), if_pos (Or.inl c32)]; first | done | rfl)
                | (rw [if_neg (fun z => z ⟨c8, c19⟩), if_pos (Or.inr (Or.inl c43))]; first | done | rfl)
                | (rw [if_neg (fun z => z ⟨c8, c19⟩), if_pos (Or.inr (Or.inr c53))]; first | done | rfl)) (by first
                | (rw [if_neg (fun z => z ⟨c8, c19⟩), if_pos (Or.inl c32)]; first | done | rfl)
                | (rw [if_neg (fun z => z ⟨c8, c19⟩), if_pos (Or.inr (Or.inl c43))]; first | done | rfl)
                | (rw [if_neg (fun z => z ⟨c8, c19⟩), if_pos (Or.inr (Or.inr c53))]; first | done | rfl))
    · skip
      refine j_ldc hE dX10_leadTo_22 kX10_185 ?_
      exact j_iret hE hR dX10_leadTo_24 (by first
          | (rw [if_pos (fun z => c8 z.1)]; first | done | rfl)
          | (rw [if_pos (fun z => c19 z.2)]; first | done | rfl)) (by first
          | (rw [if_pos (fun z => c8 z.1)]; first | done | rfl)
          | (rw [if_pos (fun z => c19 z.2)]; first | done | rfl))

set_option maxHeartbeats 4000000 in
set_option maxRecDepth 100000 in
theorem c_X10_often (l : Launch) (C : JC) (hC : JInj C) (S : Sto) (pp : Nat) (hpl : (S 0 8).toNatClampNeg = pp) (h0 : jsh pp = (0, 6)) (h1 : jsh (pp + 1) = (1, 4)) (h2 : jsh (pp + 2) = (1, 6)) (h3 : jsh (pp + 3) = (1, 6)) (h4 : jsh (pp + 4) = (1, 5)) (nl : Nat) (hnl : S pp 8 = nI nl) (hll : nl ≤ 4) (nc : Nat) (hnc : S pp 9 = nI nc) (hle : nc ≤ 6) (n r m w : Int32) : Con l C yX10_often cX10_often 5 (some .int) 22 [.ref (C.2.1 0), .int n, .int r, .int m, .int w] S (some (.int (if outP n (nI 1) (nI 8) ∨ outP r (nI 0) (nI 9) ∨ outP m (nI 0) (nI 25) ∨ outP w (nI 0) (nI 1) then -1000000002 else if plCells S pp = 0 then -1000000003 else (if w = 0 then lmS S pp 3 nl nc n.toNatClampNeg r m 9 7 else lmS S pp 3 nl nc n.toNatClampNeg r m 9 6)))) (if outP n (nI 1) (nI 8) ∨ outP r (nI 0) (nI 9) ∨ outP m (nI 0) (nI 25) ∨ outP w (nI 0) (nI 1) then S else if plCells S pp = 0 then S else lmS S pp 3 nl nc n.toNatClampNeg r m) := by
  refine con_of RX10 0 [some (.ref (C.2.1 0)), some (.int n), some (.int r), some (.int m), some (.int w)] (by decide) rfl hC (Nat.le_of_ble_eq_true rfl) rfl (Nat.le_of_ble_eq_true rfl) (fun E hE hR => ?_)
  refine j_iload1 hE dX10_often_0 ?_
  refine j_iconst hE (nI 1) dX10_often_1 kiconst_1 ?_
  refine j_bipush hE (nI 8) dX10_often_2 kbipush_8 ?_
  refine j_S3i hE mX10_75 (c_X10_outside l C hC _ _ _ _) dX10_often_4 (by decide) (Nat.le_of_ble_eq_true rfl) ?_
  first | refine j_ifneP hE 40 dX10_often_7 (by decide) (fun c7 => ?_) (fun c7 => ?_) | refine j_ifne hE 40 dX10_often_7 (by decide) (fun c7 => ?_) (fun c7 => ?_)
  · skip
    refine j_ldc hE dX10_often_40 kX10_79 ?_
    exact j_iret hE hR dX10_often_42 (by first
        | (rw [if_pos (Or.inl c7)]; first | done | rfl)
        | (rw [if_pos (Or.inr (Or.inl c17))]; first | done | rfl)
        | (rw [if_pos (Or.inr (Or.inr (Or.inl c27)))]; first | done | rfl)
        | (rw [if_pos (Or.inr (Or.inr (Or.inr c37)))]; first | done | rfl)) (by first
        | (rw [if_pos (Or.inl c7)]; first | done | rfl)
        | (rw [if_pos (Or.inr (Or.inl c17))]; first | done | rfl)
        | (rw [if_pos (Or.inr (Or.inr (Or.inl c27)))]; first | done | rfl)
        | (rw [if_pos (Or.inr (Or.inr (Or.inr c37)))]; first | done | rfl))
  · skip
    refine j_iload2 hE dX10_often_10 ?_
    refine j_iconst hE (nI 0) dX10_often_11 kiconst_0 ?_
    refine j_bipush hE (nI 9) dX10_often_12 kbipush_9 ?_
    refine j_S3i hE mX10_75 (c_X10_outside l C hC _ _ _ _) dX10_often_14 (by decide) (Nat.le_of_ble_eq_true rfl) ?_
    first | refine j_ifneP hE 40 dX10_often_17 (by decide) (fun c17 => ?_) (fun c17 => ?_) | refine j_ifne hE 40 dX10_often_17 (by decide) (fun c17 => ?_) (fun c17 => ?_)
    · skip
      refine j_ldc hE dX10_often_40 kX10_79 ?_
      exact j_iret hE hR dX10_often_42 (by first
          | (rw [if_pos (Or.inl c7)]; first | done | rfl)
          | (rw [if_pos (Or.inr (Or.inl c17))]; first | done | rfl)
          | (rw [if_pos (Or.inr (Or.inr (Or.inl c27)))]; first | done | rfl)
          | (rw [if_pos (Or.inr (Or.inr (Or.inr c37)))]; first | done | rfl)) (by first
          | (rw [if_pos (Or.inl c7)]; first | done | rfl)
          | (rw [if_pos (Or.inr (Or.inl c17))]; first | done | rfl)
          | (rw [if_pos (Or.inr (Or.inr (Or.inl c27)))]; first | done | rfl)
          | (rw [if_pos (Or.inr (Or.inr (Or.inr c37)))]; first | done | rfl))
    · skip
      refine j_iload3 hE dX10_often_20 ?_
      refine j_iconst hE (nI 0) dX10_often_21 kiconst_0 ?_
      refine j_bipush hE (nI 25) dX10_often_22 kbipush_25 ?_
      refine j_S3i hE mX10_75 (c_X10_outside l C hC _ _ _ _) dX10_often_24 (by decide) (Nat.le_of_ble_eq_true rfl) ?_
      first | refine j_ifneP hE 40 dX10_often_27 (by decide) (fun c27 => ?_) (fun c27 => ?_) | refine j_ifne hE 40 dX10_often_27 (by decide) (fun c27 => ?_) (fun c27 => ?_)
      · skip
        refine j_ldc hE dX10_often_40 kX10_79 ?_
        exact j_iret hE hR dX10_often_42 (by first
            | (rw [if_pos (Or.inl c7)]; first | done | rfl)
            | (rw [if_pos (Or.inr (Or.inl c17))]; first | done | rfl)
            | (rw [if_pos (Or.inr (Or.inr (Or.inl c27)))]; first | done | rfl)
            | (rw [if_pos (Or.inr (Or.inr (Or.inr c37)))]; first | done | rfl)) (by first
            | (rw [if_pos (Or.inl c7)]; first | done | rfl)
            | (rw [if_pos (Or.inr (Or.inl c17))]; first | done | rfl)
            | (rw [if_pos (Or.inr (Or.inr (Or.inl c27)))]; first | done | rfl)
            | (rw [if_pos (Or.inr (Or.inr (Or.inr c37)))]; first | done | rfl))
      · skip
        refine j_iload4 hE dX10_often_30 ?_
        refine j_iconst hE (nI 0) dX10_often_32 kiconst_0 ?_
        refine j_iconst hE (nI 1) dX10_often_33 kiconst_1 ?_
        refine j_S3i hE mX10_75 (c_X10_outside l C hC _ _ _ _) dX10_often_34 (by decide) (Nat.le_of_ble_eq_true rfl) ?_
        first | refine j_ifeqP hE 43 dX10_often_37 (by decide) (fun c37 => ?_) (fun c37 => ?_) | refine j_ifeq hE 43 dX10_often_37 (by decide) (fun c37 => ?_) (fun c37 => ?_)
        · skip
          refine j_aload0 hE dX10_often_43 ?_
          refine j_V0i hE mX10_219 (c_X10_noWall l C hC _ pp hpl h0 h1 h2 h3 h4) dX10_often_44 (by first | assumption | rfl) (by decide) (Nat.le_of_ble_eq_true rfl) ?_
          first | refine j_ifeqP hE 53 dX10_often_47 (by decide) (fun c47 => ?_) (fun c47 => ?_) | refine j_ifeq hE 53 dX10_often_47 (by decide) (fun c47 => ?_) (fun c47 => ?_)
          · skip
            obtain ⟨k, hk1, hk2, rfl⟩ := out_n (by decide) c7 (by decide)
            refine j_aload0 hE dX10_often_53 ?_
            refine j_getr hE fX10_33 dX10_often_54 (j := 9) (by first | assumption | rfl) (rfl) ?_
            refine j_aload0 hE dX10_often_57 ?_
            refine j_getr hE fX10_67 dX10_often_58 (j := pp) (by first | assumption | rfl) (by assumption) ?_
            refine j_aload0 hE dX10_often_61 ?_
            refine j_getr hE fX10_19 dX10_often_62 (j := 3) (by first | assumption | rfl) (rfl) ?_
            refine j_iload1 hE dX10_often_65 ?_
            refine j_iload2 hE dX10_often_66 ?_
            refine j_iload3 hE dX10_often_67 ?_
            refine j_V5v hE mX10_267 (c_X9_lookMost l C hC _ pp h0 h1 h2 h3 h4 3 rfl rfl rfl nl hnl hll nc hnc hle k (by omega) r m) dX10_often_68 (by first | assumption | rfl) (by decide) (Nat.le_of_ble_eq_true rfl) ?_
            refine j_iload4 hE dX10_often_71 ?_
            refine j_ifne hE 86 dX10_often_73 (by decide) (fun c73 => ?_) (fun c73 => ?_)
            · skip
              refine j_aload0 hE dX10_often_86 ?_
              refine j_getr hE fX10_33 dX10_often_87 (j := 9) (by first | assumption | rfl) (rfl) ?_
              refine j_geti hE fX10_261 dX10_often_90 (by first | assumption | rfl) ?_
              exact j_iret hE hR dX10_often_93 (by first
                  | (rw [if_neg (fun z => z.elim c7 (fun y => y.elim c17 (fun x => x.elim c27 c37))), if_neg c47, nI_clamp (by omega), if_pos c73]; first | done | rfl)
                  | (rw [if_neg (fun z => z.elim c7 (fun y => y.elim c17 (fun x => x.elim c27 c37))), if_neg c47, nI_clamp (by omega), if_neg c73]; first | done | rfl)) (by first
                  | (rw [if_neg (fun z => z.elim c7 (fun y => y.elim c17 (fun x => x.elim c27 c37))), if_neg c47, nI_clamp (by omega)]; first | done | rfl))
            · skip
              refine j_aload0 hE dX10_often_76 ?_
              refine j_getr hE fX10_33 dX10_often_77 (j := 9) (by first | assumption | rfl) (rfl) ?_
              refine j_geti hE fX10_264 dX10_often_80 (by first | assumption | rfl) ?_
              refine j_goto hE 93 dX10_often_83 (by decide) ?_
              exact j_iret hE hR dX10_often_93 (by first
                  | (rw [if_neg (fun z => z.elim c7 (fun y => y.elim c17 (fun x => x.elim c27 c37))), if_neg c47, nI_clamp (by omega), if_pos c73]; first | done | rfl)
                  | (rw [if_neg (fun z => z.elim c7 (fun y => y.elim c17 (fun x => x.elim c27 c37))), if_neg c47, nI_clamp (by omega), if_neg c73]; first | done | rfl)) (by first
                  | (rw [if_neg (fun z => z.elim c7 (fun y => y.elim c17 (fun x => x.elim c27 c37))), if_neg c47, nI_clamp (by omega)]; first | done | rfl))
          · skip
            refine j_ldc hE dX10_often_50 kX10_223 ?_
            exact j_iret hE hR dX10_often_52 (by first
                | (rw [if_neg (fun z => z.elim c7 (fun y => y.elim c17 (fun x => x.elim c27 c37))), if_pos c47]; first | done | rfl)) (by first
                | (rw [if_neg (fun z => z.elim c7 (fun y => y.elim c17 (fun x => x.elim c27 c37))), if_pos c47]; first | done | rfl))
        · skip
          refine j_ldc hE dX10_often_40 kX10_79 ?_
          exact j_iret hE hR dX10_often_42 (by first
              | (rw [if_pos (Or.inl c7)]; first | done | rfl)
              | (rw [if_pos (Or.inr (Or.inl c17))]; first | done | rfl)
              | (rw [if_pos (Or.inr (Or.inr (Or.inl c27)))]; first | done | rfl)
              | (rw [if_pos (Or.inr (Or.inr (Or.inr c37)))]; first | done | rfl)) (by first
              | (rw [if_pos (Or.inl c7)]; first | done | rfl)
              | (rw [if_pos (Or.inr (Or.inl c17))]; first | done | rfl)
              | (rw [if_pos (Or.inr (Or.inr (Or.inl c27)))]; first | done | rfl)
              | (rw [if_pos (Or.inr (Or.inr (Or.inr c37)))]; first | done | rfl))

set_option maxHeartbeats 4000000 in
set_option maxRecDepth 100000 in
theorem c_X10_wasRain (l : Launch) (C : JC) (hC : JInj C) (S : Sto) (pp : Nat) (hpl : (S 0 8).toNatClampNeg = pp) (h0 : jsh pp = (0, 6)) (h1 : jsh (pp + 1) = (1, 4)) (h2 : jsh (pp + 2) = (1, 6)) (h3 : jsh (pp + 3) = (1, 6)) (h4 : jsh (pp + 4) = (1, 5)) (nl : Nat) (hnl : S pp 8 = nI nl) (hll : nl ≤ 4) (nc : Nat) (hnc : S pp 9 = nI nc) (hle : nc ≤ 6) (set : Int32) : Con l C yX10_wasRain cX10_wasRain 2 (some .int) 9 [.ref (C.2.1 0), .int set] S (some (.int (if ¬ set &&& (plAll S pp ^^^ (-1)) = 0 then -1000000001 else if plCells S pp = 0 then -1000000003 else rsF S pp 3 nl nc set 10))) (if ¬ set &&& (plAll S pp ^^^ (-1)) = 0 then S else if plCells S pp = 0 then S else rsS S pp 3 nl nc 10) := by
  refine con_of RX10 0 [some (.ref (C.2.1 0)), some (.int set)] (by decide) rfl hC (Nat.le_of_ble_eq_true rfl) rfl (Nat.le_of_ble_eq_true rfl) (fun E hE hR => ?_)
  refine j_iload1 hE dX10_wasRain_0 ?_
  refine j_aload0 hE dX10_wasRain_1 ?_
  refine j_getr hE fX10_67 dX10_wasRain_2 (j := pp) (by first | assumption | rfl) (by assumption) ?_
  refine j_geti hE fX10_271 dX10_wasRain_5 (by first | assumption | rfl) ?_
  refine j_iconst hE (-1) dX10_wasRain_8 kiconst_m1 ?_
  refine j_ixor hE dX10_wasRain_9 ?_
  refine j_iand hE dX10_wasRain_10 ?_
  refine j_ifeq hE 17 dX10_wasRain_11 (by decide) (fun c11 => ?_) (fun c11 => ?_)
  · skip
    refine j_aload0 hE dX10_wasRain_17 ?_
    refine j_V0i hE mX10_219 (c_X10_noWall l C hC _ pp hpl h0 h1 h2 h3 h4) dX10_wasRain_18 (by first | assumption | rfl) (by decide) (Nat.le_of_ble_eq_true rfl) ?_
    first | refine j_ifeqP hE 29 dX10_wasRain_21 (by decide) (fun c21 => ?_) (fun c21 => ?_) | refine j_ifeq hE 29 dX10_wasRain_21 (by decide) (fun c21 => ?_) (fun c21 => ?_)
    · skip
      refine j_aload0 hE dX10_wasRain_29 ?_
      refine j_getr hE fX10_33 dX10_wasRain_30 (j := 9) (by first | assumption | rfl) (rfl) ?_
      refine j_aload0 hE dX10_wasRain_33 ?_
      refine j_getr hE fX10_67 dX10_wasRain_34 (j := pp) (by first | assumption | rfl) (by assumption) ?_
      refine j_aload0 hE dX10_wasRain_37 ?_
      refine j_getr hE fX10_19 dX10_wasRain_38 (j := 3) (by first | assumption | rfl) (rfl) ?_
      refine j_iload1 hE dX10_wasRain_41 ?_
      refine j_V3i hE mX10_274 (c_X9_rainsThatShow l C hC _ pp h0 h1 h2 h3 h4 3 rfl rfl rfl nl hnl hll nc hnc hle set) dX10_wasRain_42 (by first | assumption | rfl) (by decide) (Nat.le_of_ble_eq_true rfl) ?_
      exact j_iret hE hR dX10_wasRain_45 (by first
          | (rw [if_neg (fun z => z c11), if_pos c21]; first | done | rfl)
          | (rw [if_neg (fun z => z c11), if_neg c21]; first | done | rfl)) (by first
          | (rw [if_neg (fun z => z c11), if_pos c21]; first | done | rfl)
          | (rw [if_neg (fun z => z c11), if_neg c21]; first | done | rfl))
    · skip
      refine j_ldc hE dX10_wasRain_24 kX10_223 ?_
      refine j_goto hE 45 dX10_wasRain_26 (by decide) ?_
      exact j_iret hE hR dX10_wasRain_45 (by first
          | (rw [if_neg (fun z => z c11), if_pos c21]; first | done | rfl)
          | (rw [if_neg (fun z => z c11), if_neg c21]; first | done | rfl)) (by first
          | (rw [if_neg (fun z => z c11), if_pos c21]; first | done | rfl)
          | (rw [if_neg (fun z => z c11), if_neg c21]; first | done | rfl))
  · skip
    refine j_ldc hE dX10_wasRain_14 kX10_185 ?_
    exact j_iret hE hR dX10_wasRain_16 (by first
        | (rw [if_pos c11]; first | done | rfl)) (by first
        | (rw [if_pos c11]; first | done | rfl))

set_option maxHeartbeats 4000000 in
set_option maxRecDepth 100000 in
theorem c_X10_rainToTell (l : Launch) (C : JC) (hC : JInj C) (S : Sto) (pp : Nat) (hpl : (S 0 8).toNatClampNeg = pp) (h0 : jsh pp = (0, 6)) (h1 : jsh (pp + 1) = (1, 4)) (h2 : jsh (pp + 2) = (1, 6)) (h3 : jsh (pp + 3) = (1, 6)) (h4 : jsh (pp + 4) = (1, 5)) (nl : Nat) (hnl : S pp 8 = nI nl) (hll : nl ≤ 4) (nc : Nat) (hnc : S pp 9 = nI nc) (hle : nc ≤ 6) (nf : Nat) (hnf : S pp 10 = nI nf) (hfl : nf ≤ 25) (w : Int32) : Con l C yX10_rainToTell cX10_rainToTell 2 (some .int) 9 [.ref (C.2.1 0), .int w] S (some (.int (if outP w (nI 0) (nI 1) then -1000000002 else if plCells S pp = 0 then -1000000003 else (if w = 0 then rlS S pp 3 nl nc nf 10 9 6 else rlS S pp 3 nl nc nf 10 9 7)))) (if outP w (nI 0) (nI 1) then S else if plCells S pp = 0 then S else rlS S pp 3 nl nc nf 10) := by
  refine con_of RX10 0 [some (.ref (C.2.1 0)), some (.int w)] (by decide) rfl hC (Nat.le_of_ble_eq_true rfl) rfl (Nat.le_of_ble_eq_true rfl) (fun E hE hR => ?_)
  refine j_iload1 hE dX10_rainToTell_0 ?_
  refine j_iconst hE (nI 0) dX10_rainToTell_1 kiconst_0 ?_
  refine j_iconst hE (nI 1) dX10_rainToTell_2 kiconst_1 ?_
  refine j_S3i hE mX10_75 (c_X10_outside l C hC _ _ _ _) dX10_rainToTell_3 (by decide) (Nat.le_of_ble_eq_true rfl) ?_
  first | refine j_ifeqP hE 12 dX10_rainToTell_6 (by decide) (fun c6 => ?_) (fun c6 => ?_) | refine j_ifeq hE 12 dX10_rainToTell_6 (by decide) (fun c6 => ?_) (fun c6 => ?_)
  · skip
    refine j_aload0 hE dX10_rainToTell_12 ?_
    refine j_V0i hE mX10_219 (c_X10_noWall l C hC _ pp hpl h0 h1 h2 h3 h4) dX10_rainToTell_13 (by first | assumption | rfl) (by decide) (Nat.le_of_ble_eq_true rfl) ?_
    first | refine j_ifeqP hE 22 dX10_rainToTell_16 (by decide) (fun c16 => ?_) (fun c16 => ?_) | refine j_ifeq hE 22 dX10_rainToTell_16 (by decide) (fun c16 => ?_) (fun c16 => ?_)
    · skip
      refine j_aload0 hE dX10_rainToTell_22 ?_
      refine j_getr hE fX10_33 dX10_rainToTell_23 (j := 9) (by first | assumption | rfl) (rfl) ?_
      refine j_aload0 hE dX10_rainToTell_26 ?_
      refine j_getr hE fX10_67 dX10_rainToTell_27 (j := pp) (by first | assumption | rfl) (by assumption) ?_
      refine j_aload0 hE dX10_rainToTell_30 ?_
      refine j_getr hE fX10_19 dX10_rainToTell_31 (j := 3) (by first | assumption | rfl) (rfl) ?_
      refine j_V2v hE mX10_278 (c_X9_rainThatLeavesFewest l C hC _ pp h0 h1 h2 h3 h4 3 rfl rfl rfl nl hnl hll nc hnc hle nf hnf hfl) dX10_rainToTell_34 (by first | assumption | rfl) (by decide) (Nat.le_of_ble_eq_true rfl) ?_
      refine j_iload1 hE dX10_rainToTell_37 ?_
      refine j_ifne hE 51 dX10_rainToTell_38 (by decide) (fun c38 => ?_) (fun c38 => ?_)
      · skip
        refine j_aload0 hE dX10_rainToTell_51 ?_
        refine j_getr hE fX10_33 dX10_rainToTell_52 (j := 9) (by first | assumption | rfl) (rfl) ?_
        refine j_geti hE fX10_264 dX10_rainToTell_55 (by first | assumption | rfl) ?_
        exact j_iret hE hR dX10_rainToTell_58 (by first
            | (rw [if_neg c6, if_neg c16, if_pos c38]; first | done | rfl)
            | (rw [if_neg c6, if_neg c16, if_neg c38]; first | done | rfl)) (by first
            | (rw [if_neg c6, if_neg c16]; first | done | rfl))
      · skip
        refine j_aload0 hE dX10_rainToTell_41 ?_
        refine j_getr hE fX10_33 dX10_rainToTell_42 (j := 9) (by first | assumption | rfl) (rfl) ?_
        refine j_geti hE fX10_261 dX10_rainToTell_45 (by first | assumption | rfl) ?_
        refine j_goto hE 58 dX10_rainToTell_48 (by decide) ?_
        exact j_iret hE hR dX10_rainToTell_58 (by first
            | (rw [if_neg c6, if_neg c16, if_pos c38]; first | done | rfl)
            | (rw [if_neg c6, if_neg c16, if_neg c38]; first | done | rfl)) (by first
            | (rw [if_neg c6, if_neg c16]; first | done | rfl))
    · skip
      refine j_ldc hE dX10_rainToTell_19 kX10_223 ?_
      exact j_iret hE hR dX10_rainToTell_21 (by first
          | (rw [if_neg c6, if_pos c16]; first | done | rfl)) (by first
          | (rw [if_neg c6, if_pos c16]; first | done | rfl))
  · skip
    refine j_ldc hE dX10_rainToTell_9 kX10_79 ?_
    exact j_iret hE hR dX10_rainToTell_11 (by first
        | (rw [if_pos c6]; first | done | rfl)) (by first
        | (rw [if_pos c6]; first | done | rfl))

set_option maxHeartbeats 4000000 in
set_option maxRecDepth 100000 in
theorem c_X10_dryIn (l : Launch) (C : JC) (hC : JInj C) (S : Sto) (pp : Nat) (hpl : (S 0 8).toNatClampNeg = pp) (h0 : jsh pp = (0, 6)) (h1 : jsh (pp + 1) = (1, 4)) (h2 : jsh (pp + 2) = (1, 6)) (h3 : jsh (pp + 3) = (1, 6)) (h4 : jsh (pp + 4) = (1, 5)) (nl : Nat) (hnl : S pp 8 = nI nl) (hll : nl ≤ 4) (nc : Nat) (hnc : S pp 9 = nI nc) (hle : nc ≤ 6)  : Con l C yX10_dryIn cX10_dryIn 1 (some .int) 8 [.ref (C.2.1 0)] S (some (.int (if plCells S pp = 0 then -1000000003 else (if fnd (dtdP S pp 3 nl nc) 61 0 = 61 then -1 else nI (fnd (dtdP S pp 3 nl nc) 61 0))))) (if plCells S pp = 0 then S else mbS S pp 3 nl nc (nI 0) (fnd (dtdP S pp 3 nl nc) 61 0)) := by
  refine con_of RX10 0 [some (.ref (C.2.1 0))] (by decide) rfl hC (Nat.le_of_ble_eq_true rfl) rfl (Nat.le_of_ble_eq_true rfl) (fun E hE hR => ?_)
  refine j_aload0 hE dX10_dryIn_0 ?_
  refine j_V0i hE mX10_219 (c_X10_noWall l C hC _ pp hpl h0 h1 h2 h3 h4) dX10_dryIn_1 (by first | assumption | rfl) (by decide) (Nat.le_of_ble_eq_true rfl) ?_
  first | refine j_ifeqP hE 12 dX10_dryIn_4 (by decide) (fun c4 => ?_) (fun c4 => ?_) | refine j_ifeq hE 12 dX10_dryIn_4 (by decide) (fun c4 => ?_) (fun c4 => ?_)
  · skip
    refine j_aload0 hE dX10_dryIn_12 ?_
    refine j_getr hE fX10_33 dX10_dryIn_13 (j := 9) (by first | assumption | rfl) (rfl) ?_
    refine j_aload0 hE dX10_dryIn_16 ?_
    refine j_getr hE fX10_67 dX10_dryIn_17 (j := pp) (by first | assumption | rfl) (by assumption) ?_
    refine j_aload0 hE dX10_dryIn_20 ?_
    refine j_getr hE fX10_19 dX10_dryIn_21 (j := 3) (by first | assumption | rfl) (rfl) ?_
    refine j_V2i hE mX10_282 (c_X9_daysTillDry l C hC _ pp h0 h1 h2 h3 h4 3 rfl rfl rfl nl hnl hll nc hnc hle) dX10_dryIn_24 (by first | assumption | rfl) (by decide) (Nat.le_of_ble_eq_true rfl) ?_
    exact j_iret hE hR dX10_dryIn_27 (by first
        | (rw [if_pos c4]; first | done | rfl)
        | (rw [if_neg c4]; first | done | rfl)) (by first
        | (rw [if_pos c4]; first | done | rfl)
        | (rw [if_neg c4]; first | done | rfl))
  · skip
    refine j_ldc hE dX10_dryIn_7 kX10_223 ?_
    refine j_goto hE 27 dX10_dryIn_9 (by decide) ?_
    exact j_iret hE hR dX10_dryIn_27 (by first
        | (rw [if_pos c4]; first | done | rfl)
        | (rw [if_neg c4]; first | done | rfl)) (by first
        | (rw [if_pos c4]; first | done | rfl)
        | (rw [if_neg c4]; first | done | rfl))

theorem look2 {x : Int32} (h1 : ¬ x = nI 0) (h2 : ¬ x = nI 1) : Op.lookupswitch.offset [((0 : Int), (25 : Int)), (1, 28)] 47 x.toInt = 47 := by
  have f : ∀ k : Nat, ¬ x = nI k → ¬ (k : Int) = x.toInt := fun k h q => h (i32_of q.symm)
  rw [Op.lookupswitch.offset_cons, if_neg (show ¬ (0 : Int) = x.toInt from f 0 h1), Op.lookupswitch.offset_cons, if_neg (show ¬ (1 : Int) = x.toInt from f 1 h2), Op.lookupswitch.offset_nil]
set_option maxHeartbeats 4000000 in
set_option maxRecDepth 100000 in
theorem c_X10_either (l : Launch) (C : JC) (hC : JInj C) (S : Sto) (pp : Nat) (hpl : (S 0 8).toNatClampNeg = pp) (h0 : jsh pp = (0, 6)) (h1 : jsh (pp + 1) = (1, 4)) (h2 : jsh (pp + 2) = (1, 6)) (h3 : jsh (pp + 3) = (1, 6)) (h4 : jsh (pp + 4) = (1, 5)) (f g w : Int32) : Con l C yX10_either cX10_either 6 (some .int) 3 [.ref (C.2.1 0), .int f, .int g, .int w] S (some (.int (if ¬ (hasP (S pp 10) f ∧ hasP (S pp 10) g) then -1000000001 else sw2F w (pickF 5 (S (pp + 4)) f ^^^ pickF 5 (S (pp + 4)) g) (bcF ((pickF 5 (S (pp + 4)) f ^^^ pickF 5 (S (pp + 4)) g) &&& ((marksF (S 4) 25 ^^^ pickF 5 (S (pp + 4)) f) ^^^ (-1)))) (-1000000002)))) (S) := by
  refine con_of RX10 2 [some (.ref (C.2.1 0)), some (.int f), some (.int g), some (.int w), none, none] (by decide) rfl hC (Nat.le_of_ble_eq_true rfl) rfl (Nat.le_of_ble_eq_true rfl) (fun E hE hR => ?_)
  refine j_aload0 hE dX10_either_0 ?_
  refine j_getr hE fX10_67 dX10_either_1 (j := pp) (by first | assumption | rfl) (by assumption) ?_
  refine j_iload1 hE dX10_either_4 ?_
  refine j_V1i hE mX10_204 (c_X7_hasFace l C hC _ pp h0 f) dX10_either_5 (by first | assumption | rfl) (by decide) (Nat.le_of_ble_eq_true rfl) ?_
  first | refine j_ifeqP hE 22 dX10_either_8 (by decide) (fun c8 => ?_) (fun c8 => ?_) | refine j_ifeq hE 22 dX10_either_8 (by decide) (fun c8 => ?_) (fun c8 => ?_)
  · skip
    refine j_ldc hE dX10_either_22 kX10_185 ?_
    exact j_iret hE hR dX10_either_24 (by first
        | (rw [if_pos (fun z => c8 z.1)]; first | done | rfl)
        | (rw [if_pos (fun z => c19 z.2)]; first | done | rfl)) (rfl)
  · skip
    refine j_aload0 hE dX10_either_11 ?_
    refine j_getr hE fX10_67 dX10_either_12 (j := pp) (by first | assumption | rfl) (by assumption) ?_
    refine j_iload2 hE dX10_either_15 ?_
    refine j_V1i hE mX10_204 (c_X7_hasFace l C hC _ pp h0 g) dX10_either_16 (by first | assumption | rfl) (by decide) (Nat.le_of_ble_eq_true rfl) ?_
    first | refine j_ifneP hE 25 dX10_either_19 (by decide) (fun c19 => ?_) (fun c19 => ?_) | refine j_ifne hE 25 dX10_either_19 (by decide) (fun c19 => ?_) (fun c19 => ?_)
    · skip
      refine j_aload0 hE dX10_either_25 ?_
      refine j_getr hE fX10_67 dX10_either_26 (j := pp) (by first | assumption | rfl) (by assumption) ?_
      refine j_getr hE fX10_207 dX10_either_29 (by first | assumption | rfl) (rf_o (by first | assumption | rfl) (by decide)) ?_
      refine j_iload1 hE dX10_either_32 ?_
      refine j_S2i hE mX10_181 (c_X10_pick l C hC _ (pp + 4) 5 h4 (by decide) f) dX10_either_33 (by decide) (Nat.le_of_ble_eq_true rfl) ?_
      refine j_istore4 hE dX10_either_36 rfl ?_
      refine j_iload4 hE dX10_either_38 ?_
      refine j_aload0 hE dX10_either_40 ?_
      refine j_getr hE fX10_67 dX10_either_41 (j := pp) (by first | assumption | rfl) (by assumption) ?_
      refine j_getr hE fX10_207 dX10_either_44 (by first | assumption | rfl) (rf_o (by first | assumption | rfl) (by decide)) ?_
      refine j_iload2 hE dX10_either_47 ?_
      refine j_S2i hE mX10_181 (c_X10_pick l C hC _ (pp + 4) 5 h4 (by decide) g) dX10_either_48 (by decide) (Nat.le_of_ble_eq_true rfl) ?_
      refine j_ixor hE dX10_either_51 ?_
      refine j_istore5 hE dX10_either_52 rfl ?_
      refine j_iload3 hE dX10_either_54 ?_
      by_cases w0 : w = nI 0
      · refine j_lookC hE 80 0 dX10_either_55 w0 rfl rfl (by decide) ?_
        refine j_iload5 hE dX10_either_80 ?_
        exact j_iret hE hR dX10_either_82 (by first
            | (rw [if_neg (fun z => z ⟨c8, c19⟩), sw2F, if_pos w0]; first | done | rfl)) (rfl)
      by_cases w1 : w = nI 1
      · refine j_lookC hE 83 1 dX10_either_55 w1 rfl rfl (by decide) ?_
        refine j_iload5 hE dX10_either_83 ?_
        refine j_aload0 hE dX10_either_85 ?_
        refine j_getr hE fX10_19 dX10_either_86 (j := 3) (by first | assumption | rfl) (rfl) ?_
        refine j_V0i hE mX10_135 (c_X1_marks l C hC _ 3 rfl rfl rfl) dX10_either_89 (by first | assumption | rfl) (by decide) (Nat.le_of_ble_eq_true rfl) ?_
        refine j_iload4 hE dX10_either_92 ?_
        refine j_ixor hE dX10_either_94 ?_
        refine j_iconst hE (-1) dX10_either_95 kiconst_m1 ?_
        refine j_ixor hE dX10_either_96 ?_
        refine j_iand hE dX10_either_97 ?_
        refine j_S1i hE mX10_214 (c_J6_bitCount_0f7a4 l C hC _ _) dX10_either_98 (by decide) (Nat.le_of_ble_eq_true rfl) ?_
        exact j_iret hE hR dX10_either_101 (by first
            | (rw [if_neg (fun z => z ⟨c8, c19⟩), sw2F, if_neg w0, if_pos w1]; first | done | rfl)) (rfl)
      refine j_look hE 102 dX10_either_55 rfl (look2 w0 w1) (by decide) ?_
      refine j_ldc hE dX10_either_102 kX10_79 ?_
      exact j_iret hE hR dX10_either_104 (by first
          | (rw [if_neg (fun z => z ⟨c8, c19⟩), sw2F, if_neg w0, if_neg w1]; first | done | rfl)) (rfl)
    · skip
      refine j_ldc hE dX10_either_22 kX10_185 ?_
      exact j_iret hE hR dX10_either_24 (by first
          | (rw [if_pos (fun z => c8 z.1)]; first | done | rfl)
          | (rw [if_pos (fun z => c19 z.2)]; first | done | rfl)) (rfl)

def rnF (q : Int32) : Nat → Int64
  | 0 => 1000000000
  | n + 1 => rnF q n * q.toInt64 / 100
set_option maxHeartbeats 4000000 in
set_option maxRecDepth 100000 in
theorem c_X10_rainy (l : Launch) (C : JC) (hC : JInj C) (S : Sto) (n q : Int32) : Con l C yX10_rainy cX10_rainy 6 (some .int) 3 [.ref (C.2.1 0), .int n, .int q] S (some (.int (if outP n (nI 0) (nI 60) ∨ outP q (nI 0) (nI 100) then -1000000002 else (rnF q n.toNatClampNeg).toInt32))) (S) := by
  refine con_of RX10 3 [some (.ref (C.2.1 0)), some (.int n), some (.int q), none, none, none] (by decide) rfl hC (Nat.le_of_ble_eq_true rfl) rfl (Nat.le_of_ble_eq_true rfl) (fun E hE hR => ?_)
  refine j_iload1 hE dX10_rainy_0 ?_
  refine j_iconst hE (nI 0) dX10_rainy_1 kiconst_0 ?_
  refine j_bipush hE (nI 60) dX10_rainy_2 kbipush_60 ?_
  refine j_S3i hE mX10_75 (c_X10_outside l C hC _ _ _ _) dX10_rainy_4 (by decide) (Nat.le_of_ble_eq_true rfl) ?_
  first | refine j_ifneP hE 20 dX10_rainy_7 (by decide) (fun c7 => ?_) (fun c7 => ?_) | refine j_ifne hE 20 dX10_rainy_7 (by decide) (fun c7 => ?_) (fun c7 => ?_)
  · skip
    refine j_ldc hE dX10_rainy_20 kX10_79 ?_
    exact j_iret hE hR dX10_rainy_22 (by first
        | (rw [if_pos (Or.inl c7)]; first | done | rfl)
        | (rw [if_pos (Or.inr c17)]; first | done | rfl)) (rfl)
  · skip
    refine j_iload2 hE dX10_rainy_10 ?_
    refine j_iconst hE (nI 0) dX10_rainy_11 kiconst_0 ?_
    refine j_bipush hE (nI 100) dX10_rainy_12 kbipush_100 ?_
    refine j_S3i hE mX10_75 (c_X10_outside l C hC _ _ _ _) dX10_rainy_14 (by decide) (Nat.le_of_ble_eq_true rfl) ?_
    first | refine j_ifeqP hE 23 dX10_rainy_17 (by decide) (fun c17 => ?_) (fun c17 => ?_) | refine j_ifeq hE 23 dX10_rainy_17 (by decide) (fun c17 => ?_) (fun c17 => ?_)
    · skip
      obtain ⟨k, hk1, hk2, rfl⟩ := out_n (by decide) c7 (by decide)
      refine j_ldc2 hE dX10_rainy_23 kX10_286 ?_
      refine j_lstore_n hE dX10_rainy_26 (Nat.le_of_ble_eq_true rfl) rfl ?_
      refine j_iconst hE (nI 0) dX10_rainy_27 kiconst_0 ?_
      refine j_istore5 hE dX10_rainy_28 rfl ?_
      have L30 : ∀ (fu : Nat) (i : Nat), k - i < fu → (i ≤ k) → J C E S 30 [some (.ref (C.2.1 0)), some (.int (nI k)), some (.int q), some (.long (rnF q i)), none, some (.int (nI i))] [] := by
        intro fu
        induction fu with
        | zero => intro i hm; omega
        | succ fu ih =>
          intro i hm hi
          refine j_iload5 hE dX10_rainy_30 ?_
          refine j_iload1 hE dX10_rainy_32 ?_
          refine j_icmpge hE 51 dX10_rainy_33 (by decide) (fun c33 => ?_) (fun c33 => ?_)
          · skip
            have c33 := (nI_leI (by omega) (by omega)).mp c33
            have hii : i = k := by omega
            subst hii
            refine j_lload3 hE dX10_rainy_51 ?_
            refine j_l2i hE dX10_rainy_52 ?_
            exact j_iret hE hR dX10_rainy_53 (by first
                | (rw [if_neg (fun z => z.elim c7 c17), nI_clamp (by omega)]; first | done | rfl)) (rfl)
          · skip
            have c33 : i < k := Nat.lt_of_not_le (fun q => c33 (nI_le q (by omega)))
            refine j_lload3 hE dX10_rainy_36 ?_
            refine j_iload2 hE dX10_rainy_37 ?_
            refine j_i2l hE dX10_rainy_38 ?_
            refine j_lmul hE dX10_rainy_39 ?_
            refine j_ldc2 hE dX10_rainy_40 kX10_288 ?_
            refine j_ldiv hE dX10_rainy_43 (by decide) ?_
            refine j_lstore_n hE dX10_rainy_44 (Nat.le_of_ble_eq_true rfl) rfl ?_
            refine j_iinc5 hE (nI (i + 1)) dX10_rainy_45 (nI_inc _) rfl ?_
            refine j_goto hE 30 dX10_rainy_48 (by decide) ?_
            exact ih (i + 1) (by omega) (by omega)
      exact L30 (k + 1) 0 (by omega) (by omega)
    · skip
      refine j_ldc hE dX10_rainy_20 kX10_79 ?_
      exact j_iret hE hR dX10_rainy_22 (by first
          | (rw [if_pos (Or.inl c7)]; first | done | rfl)
          | (rw [if_pos (Or.inr c17)]; first | done | rfl)) (rfl)

set_option maxHeartbeats 4000000 in
set_option maxRecDepth 100000 in
theorem c_X10_write (l : Launch) (C : JC) (hC : JInj C) (S : Sto) (pp : Nat) (hpl : (S 0 8).toNatClampNeg = pp) (h0 : jsh pp = (0, 6)) (h1 : jsh (pp + 1) = (1, 4)) (h2 : jsh (pp + 2) = (1, 6)) (h3 : jsh (pp + 3) = (1, 6)) (h4 : jsh (pp + 4) = (1, 5)) (x w : Int32) : Con l C yX10_write cX10_write 3 (some .int) 4 [.ref (C.2.1 0), .int x, .int w] S (some (.int (if ¬ hasP (plCells S pp) x then -1000000001 else if outP w (nI 0) (nI 9) then -1000000002 else (if S 91 2 < nI 15 then addBS S x w 91 2 else -1000000004)))) (if ¬ hasP (plCells S pp) x then S else if outP w (nI 0) (nI 9) then S else (if S 91 2 < nI 15 then addBS S x w else S)) := by
  refine con_of RX10 0 [some (.ref (C.2.1 0)), some (.int x), some (.int w)] (by decide) rfl hC (Nat.le_of_ble_eq_true rfl) rfl (Nat.le_of_ble_eq_true rfl) (fun E hE hR => ?_)
  refine j_aload0 hE dX10_write_0 ?_
  refine j_getr hE fX10_67 dX10_write_1 (j := pp) (by first | assumption | rfl) (by assumption) ?_
  refine j_iload1 hE dX10_write_4 ?_
  refine j_V1i hE mX10_173 (c_X7_hasCell l C hC _ pp h0 x) dX10_write_5 (by first | assumption | rfl) (by decide) (Nat.le_of_ble_eq_true rfl) ?_
  first | refine j_ifneP hE 14 dX10_write_8 (by decide) (fun c8 => ?_) (fun c8 => ?_) | refine j_ifne hE 14 dX10_write_8 (by decide) (fun c8 => ?_) (fun c8 => ?_)
  · skip
    refine j_iload2 hE dX10_write_14 ?_
    refine j_iconst hE (nI 0) dX10_write_15 kiconst_0 ?_
    refine j_bipush hE (nI 9) dX10_write_16 kbipush_9 ?_
    refine j_S3i hE mX10_75 (c_X10_outside l C hC _ _ _ _) dX10_write_18 (by decide) (Nat.le_of_ble_eq_true rfl) ?_
    first | refine j_ifeqP hE 29 dX10_write_21 (by decide) (fun c21 => ?_) (fun c21 => ?_) | refine j_ifeq hE 29 dX10_write_21 (by decide) (fun c21 => ?_) (fun c21 => ?_)
    · skip
      refine j_aload0 hE dX10_write_29 ?_
      refine j_getr hE fX10_47 dX10_write_30 (j := 91) (by first | assumption | rfl) (rfl) ?_
      refine j_iload1 hE dX10_write_33 ?_
      refine j_iload2 hE dX10_write_34 ?_
      refine j_V2i hE mX10_290 (c_X0_add l C hC _ x w) dX10_write_35 (by first | assumption | rfl) (by decide) (Nat.le_of_ble_eq_true rfl) ?_
      exact j_iret hE hR dX10_write_38 (by first
          | (exact ((if_neg (fun z => z c8)).trans (if_pos c21)).symm)
          | (exact ((if_neg (fun z => z c8)).trans (if_neg c21)).symm)) (by first
          | (exact ((if_neg (fun z => z c8)).trans (if_pos c21)).symm)
          | (exact ((if_neg (fun z => z c8)).trans (if_neg c21)).symm))
    · skip
      refine j_ldc hE dX10_write_24 kX10_79 ?_
      refine j_goto hE 38 dX10_write_26 (by decide) ?_
      exact j_iret hE hR dX10_write_38 (by first
          | (exact ((if_neg (fun z => z c8)).trans (if_pos c21)).symm)
          | (exact ((if_neg (fun z => z c8)).trans (if_neg c21)).symm)) (by first
          | (exact ((if_neg (fun z => z c8)).trans (if_pos c21)).symm)
          | (exact ((if_neg (fun z => z c8)).trans (if_neg c21)).symm))
  · skip
    refine j_ldc hE dX10_write_11 kX10_185 ?_
    exact j_iret hE hR dX10_write_13 (by first
        | (rw [if_pos c8]; first | done | rfl)) (by first
        | (rw [if_pos c8]; first | done | rfl))

set_option maxHeartbeats 4000000 in
set_option maxRecDepth 100000 in
theorem c_X10_tear (l : Launch) (C : JC) (hC : JInj C) (S : Sto)  : Con l C yX10_tear cX10_tear 2 (some .int) 3 [.ref (C.2.1 0)] S (some (.int (S 91 2))) (up2 S 91 2 (nI 0)) := by
  refine con_of RX10 1 [some (.ref (C.2.1 0)), none] (by decide) rfl hC (Nat.le_of_ble_eq_true rfl) rfl (Nat.le_of_ble_eq_true rfl) (fun E hE hR => ?_)
  refine j_aload0 hE dX10_tear_0 ?_
  refine j_getr hE fX10_47 dX10_tear_1 (j := 91) (by first | assumption | rfl) (rfl) ?_
  refine j_geti hE fX10_171 dX10_tear_4 (by first | assumption | rfl) ?_
  refine j_istore1 hE dX10_tear_7 rfl ?_
  refine j_aload0 hE dX10_tear_8 ?_
  refine j_getr hE fX10_47 dX10_tear_9 (j := 91) (by first | assumption | rfl) (rfl) ?_
  refine j_V0v hE mX10_96 (c_X0_clear l C hC _) dX10_tear_12 (by first | assumption | rfl) (by decide) (Nat.le_of_ble_eq_true rfl) ?_
  refine j_iload1 hE dX10_tear_15 ?_
  exact j_iret hE hR dX10_tear_16 (rfl) (rfl)

set_option maxHeartbeats 4000000 in
set_option maxRecDepth 100000 in
theorem c_X10_judge (l : Launch) (C : JC) (hC : JInj C) (S : Sto) (n : Nat) (hn : S 91 2 = nI n) (hle : n ≤ 15) : Con l C yX10_judge cX10_judge 1 (some .int) 4 [.ref (C.2.1 0)] S (some (.int (if fnd (fwP S 3) n 0 = n then -1 else nI (fnd (fwP S 3) n 0)))) (S) := by
  refine con_of RX10 0 [some (.ref (C.2.1 0))] (by decide) rfl hC (Nat.le_of_ble_eq_true rfl) rfl (Nat.le_of_ble_eq_true rfl) (fun E hE hR => ?_)
  refine j_aload0 hE dX10_judge_0 ?_
  refine j_getr hE fX10_47 dX10_judge_1 (j := 91) (by first | assumption | rfl) (rfl) ?_
  refine j_aload0 hE dX10_judge_4 ?_
  refine j_getr hE fX10_19 dX10_judge_5 (j := 3) (by first | assumption | rfl) (rfl) ?_
  refine j_V1i hE mX10_293 (c_X0_firstWrong l C hC _ 3 rfl rfl rfl n hn hle) dX10_judge_8 (by first | assumption | rfl) (by decide) (Nat.le_of_ble_eq_true rfl) ?_
  exact j_iret hE hR dX10_judge_11 (rfl) (rfl)

set_option maxHeartbeats 4000000 in
set_option maxRecDepth 100000 in
theorem c_X10_seed (l : Launch) (C : JC) (hC : JInj C) (S : Sto) (v : Int32) : Con l C yX10_seed cX10_seed 3 (some .int) 1 [.ref (C.2.1 0), .int v] S (some (.int (if ¬ 0 ≤ v then -1000000002 else S 94 0))) (if ¬ 0 ≤ v then S else up2 S 94 0 v) := by
  refine con_of RX10 1 [some (.ref (C.2.1 0)), some (.int v), none] (by decide) rfl hC (Nat.le_of_ble_eq_true rfl) rfl (Nat.le_of_ble_eq_true rfl) (fun E hE hR => ?_)
  refine j_iload1 hE dX10_seed_0 ?_
  refine j_ifge hE 7 dX10_seed_1 (by decide) (fun c1 => ?_) (fun c1 => ?_)
  · skip
    refine j_aload0 hE dX10_seed_7 ?_
    refine j_getr hE fX10_54 dX10_seed_8 (j := 94) (by first | assumption | rfl) (rfl) ?_
    refine j_geti hE fX10_297 dX10_seed_11 (by first | assumption | rfl) ?_
    refine j_istore2 hE dX10_seed_14 rfl ?_
    refine j_aload0 hE dX10_seed_15 ?_
    refine j_getr hE fX10_54 dX10_seed_16 (j := 94) (by first | assumption | rfl) (rfl) ?_
    refine j_iload1 hE dX10_seed_19 ?_
    refine j_puti hE pX10_297 dX10_seed_20 (by first | assumption | rfl) rfl rfl ?_
    refine j_iload2 hE dX10_seed_23 ?_
    exact j_iret hE hR dX10_seed_24 (by first
        | (rw [if_neg (fun z => z c1)]; first | done | rfl)) (by first
        | (rw [if_neg (fun z => z c1)]; first | done | rfl))
  · skip
    refine j_ldc hE dX10_seed_4 kX10_79 ?_
    exact j_iret hE hR dX10_seed_6 (by first
        | (rw [if_pos c1]; first | done | rfl)) (by first
        | (rw [if_pos c1]; first | done | rfl))

theorem img_sh : ∀ k, k < 2 → jsh (106 + 4 * k) = (0, 4) ∧ jsh (106 + 4 * k + 1) = (0, 1) ∧ jsh (106 + 4 * k + 1 + 1) = (1, 25) ∧ jsh (106 + 4 * k + 1 + 2) = (1, 4) := by decide
def keepS (S : Sto) (k : Nat) : Sto :=
  let A := copS S (106 + 4 * k + 1) 3
  up2 (up2 (up2 A (106 + 4 * k) 1 (A 94 0)) (106 + 4 * k) 2 (nI 1)) 41 2 (nI 0)
def backS (S : Sto) (k : Nat) : Sto :=
  let A := copS S 3 (106 + 4 * k + 1)
  up2 (up2 A 94 0 (A (106 + 4 * k) 1)) 41 2 (nI 0)
set_option maxHeartbeats 4000000 in
set_option maxRecDepth 100000 in
theorem c_X10_keep (l : Launch) (C : JC) (hC : JInj C) (S : Sto) (i : Int32) : Con l C yX10_keep cX10_keep 3 (some .int) 4 [.ref (C.2.1 0), .int i] S (some (.int (if outP i (nI 0) (nI 1) then -1000000001 else nI 1))) (if outP i (nI 0) (nI 1) then S else keepS S i.toNatClampNeg) := by
  refine con_of RX10 1 [some (.ref (C.2.1 0)), some (.int i), none] (by decide) rfl hC (Nat.le_of_ble_eq_true rfl) rfl (Nat.le_of_ble_eq_true rfl) (fun E hE hR => ?_)
  refine j_iload1 hE dX10_keep_0 ?_
  refine j_iconst hE (nI 0) dX10_keep_1 kiconst_0 ?_
  refine j_aload0 hE dX10_keep_2 ?_
  refine j_getr hE fX10_60 dX10_keep_3 (j := 95) (by first | assumption | rfl) (rfl) ?_
  refine j_alen4 hE dX10_keep_6 (nI 2) rfl rfl ?_
  refine j_iconst hE (nI 1) dX10_keep_7 kiconst_1 ?_
  refine j_isub hE dX10_keep_8 ?_
  refine j_top (y := nI 1) (by decide) ?_
  refine j_S3i hE mX10_75 (c_X10_outside l C hC _ _ _ _) dX10_keep_9 (by decide) (Nat.le_of_ble_eq_true rfl) ?_
  first | refine j_ifeqP hE 18 dX10_keep_12 (by decide) (fun c12 => ?_) (fun c12 => ?_) | refine j_ifeq hE 18 dX10_keep_12 (by decide) (fun c12 => ?_) (fun c12 => ?_)
  · skip
    obtain ⟨k, hk1, hk2, rfl⟩ := out_n (by decide) c12 (by decide)
    obtain ⟨s0, s1, s2, s3⟩ := img_sh k (by omega)
    refine j_aload0 hE dX10_keep_18 ?_
    refine j_getr hE fX10_60 dX10_keep_19 (j := 95) (by first | assumption | rfl) (rfl) ?_
    refine j_iload1 hE dX10_keep_22 ?_
    refine j_aald4 (j := 106 + 4 * k) hE dX10_keep_23 rfl (vp_in_nI (by omega) (by decide)) (by rw [nI_clamp (by omega)]; rfl) ?_
    refine j_astore2 hE dX10_keep_24 rfl ?_
    refine j_aload2 hE dX10_keep_25 ?_
    refine j_getr hE fX10_300 dX10_keep_26 (by first | assumption | rfl) (rf_o (by first | assumption | rfl) (by decide)) ?_
    refine j_aload0 hE dX10_keep_29 ?_
    refine j_getr hE fX10_19 dX10_keep_30 (j := 3) (by first | assumption | rfl) (rfl) ?_
    refine j_V1v hE mX10_303 (c_X1_copyFrom l C hC _ (106 + 4 * k + 1) s1 s2 s3 3 rfl rfl rfl) dX10_keep_33 (by first | assumption | rfl) (by decide) (Nat.le_of_ble_eq_true rfl) ?_
    refine j_aload2 hE dX10_keep_36 ?_
    refine j_aload0 hE dX10_keep_37 ?_
    refine j_getr hE fX10_54 dX10_keep_38 (j := 94) (by first | assumption | rfl) (rfl) ?_
    refine j_geti hE fX10_297 dX10_keep_41 (by first | assumption | rfl) ?_
    refine j_puti hE pX10_306 dX10_keep_44 (by first | assumption | rfl) rfl rfl ?_
    refine j_aload2 hE dX10_keep_47 ?_
    refine j_iconst hE (nI 1) dX10_keep_48 kiconst_1 ?_
    refine j_puti hE pX10_100 dX10_keep_49 (by first | assumption | rfl) rfl rfl ?_
    refine j_aload0 hE dX10_keep_52 ?_
    refine j_getr hE fX10_40 dX10_keep_53 (j := 41) (by first | assumption | rfl) (rfl) ?_
    refine j_V0v hE mX10_99 (c_X6_clear l C hC _) dX10_keep_56 (by first | assumption | rfl) (by decide) (Nat.le_of_ble_eq_true rfl) ?_
    refine j_iconst hE (nI 1) dX10_keep_59 kiconst_1 ?_
    exact j_iret hE hR dX10_keep_60 (by first
        | (rw [if_neg c12]; first | done | rfl)) (by first
        | (rw [if_neg c12, nI_clamp (by omega)]; first | done | rfl))
  · skip
    refine j_ldc hE dX10_keep_15 kX10_185 ?_
    exact j_iret hE hR dX10_keep_17 (by first
        | (rw [if_pos c12]; first | done | rfl)) (by first
        | (rw [if_pos c12]; first | done | rfl))

set_option maxHeartbeats 4000000 in
set_option maxRecDepth 100000 in
theorem c_X10_goBack (l : Launch) (C : JC) (hC : JInj C) (S : Sto) (i : Int32) : Con l C yX10_goBack cX10_goBack 3 (some .int) 4 [.ref (C.2.1 0), .int i] S (some (.int (if outP i (nI 0) (nI 1) then -1000000001 else if S (106 + 4 * i.toNatClampNeg) 2 = 0 then -1000000003 else nI 1))) (if outP i (nI 0) (nI 1) then S else if S (106 + 4 * i.toNatClampNeg) 2 = 0 then S else backS S i.toNatClampNeg) := by
  refine con_of RX10 1 [some (.ref (C.2.1 0)), some (.int i), none] (by decide) rfl hC (Nat.le_of_ble_eq_true rfl) rfl (Nat.le_of_ble_eq_true rfl) (fun E hE hR => ?_)
  refine j_iload1 hE dX10_goBack_0 ?_
  refine j_iconst hE (nI 0) dX10_goBack_1 kiconst_0 ?_
  refine j_aload0 hE dX10_goBack_2 ?_
  refine j_getr hE fX10_60 dX10_goBack_3 (j := 95) (by first | assumption | rfl) (rfl) ?_
  refine j_alen4 hE dX10_goBack_6 (nI 2) rfl rfl ?_
  refine j_iconst hE (nI 1) dX10_goBack_7 kiconst_1 ?_
  refine j_isub hE dX10_goBack_8 ?_
  refine j_top (y := nI 1) (by decide) ?_
  refine j_S3i hE mX10_75 (c_X10_outside l C hC _ _ _ _) dX10_goBack_9 (by decide) (Nat.le_of_ble_eq_true rfl) ?_
  first | refine j_ifeqP hE 18 dX10_goBack_12 (by decide) (fun c12 => ?_) (fun c12 => ?_) | refine j_ifeq hE 18 dX10_goBack_12 (by decide) (fun c12 => ?_) (fun c12 => ?_)
  · skip
    obtain ⟨k, hk1, hk2, rfl⟩ := out_n (by decide) c12 (by decide)
    obtain ⟨s0, s1, s2, s3⟩ := img_sh k (by omega)
    refine j_aload0 hE dX10_goBack_18 ?_
    refine j_getr hE fX10_60 dX10_goBack_19 (j := 95) (by first | assumption | rfl) (rfl) ?_
    refine j_iload1 hE dX10_goBack_22 ?_
    refine j_aald4 (j := 106 + 4 * k) hE dX10_goBack_23 rfl (vp_in_nI (by omega) (by decide)) (by rw [nI_clamp (by omega)]; rfl) ?_
    refine j_astore2 hE dX10_goBack_24 rfl ?_
    refine j_aload2 hE dX10_goBack_25 ?_
    refine j_geti hE fX10_100 dX10_goBack_26 (by first | assumption | rfl) ?_
    refine j_ifne hE 35 dX10_goBack_29 (by decide) (fun c29 => ?_) (fun c29 => ?_)
    · skip
      refine j_aload0 hE dX10_goBack_35 ?_
      refine j_getr hE fX10_19 dX10_goBack_36 (j := 3) (by first | assumption | rfl) (rfl) ?_
      refine j_aload2 hE dX10_goBack_39 ?_
      refine j_getr hE fX10_300 dX10_goBack_40 (by first | assumption | rfl) (rf_o (by first | assumption | rfl) (by decide)) ?_
      refine j_V1v hE mX10_303 (c_X1_copyFrom l C hC _ 3 rfl rfl rfl (106 + 4 * k + 1) s1 s2 s3) dX10_goBack_43 (by first | assumption | rfl) (by decide) (Nat.le_of_ble_eq_true rfl) ?_
      refine j_aload0 hE dX10_goBack_46 ?_
      refine j_getr hE fX10_54 dX10_goBack_47 (j := 94) (by first | assumption | rfl) (rfl) ?_
      refine j_aload2 hE dX10_goBack_50 ?_
      refine j_geti hE fX10_306 dX10_goBack_51 (by first | assumption | rfl) ?_
      refine j_puti hE pX10_297 dX10_goBack_54 (by first | assumption | rfl) rfl rfl ?_
      refine j_aload0 hE dX10_goBack_57 ?_
      refine j_getr hE fX10_40 dX10_goBack_58 (j := 41) (by first | assumption | rfl) (rfl) ?_
      refine j_V0v hE mX10_99 (c_X6_clear l C hC _) dX10_goBack_61 (by first | assumption | rfl) (by decide) (Nat.le_of_ble_eq_true rfl) ?_
      refine j_iconst hE (nI 1) dX10_goBack_64 kiconst_1 ?_
      exact j_iret hE hR dX10_goBack_65 (by first
          | (rw [if_neg c12, nI_clamp (by omega), if_neg c29]; first | done | rfl)) (by first
          | (rw [if_neg c12, nI_clamp (by omega), if_neg c29]; first | done | rfl))
    · skip
      refine j_ldc hE dX10_goBack_32 kX10_223 ?_
      exact j_iret hE hR dX10_goBack_34 (by first
          | (rw [if_neg c12, nI_clamp (by omega), if_pos c29]; first | done | rfl)) (by first
          | (rw [if_neg c12, nI_clamp (by omega), if_pos c29]; first | done | rfl))
  · skip
    refine j_ldc hE dX10_goBack_15 kX10_185 ?_
    exact j_iret hE hR dX10_goBack_17 (by first
        | (rw [if_pos c12]; first | done | rfl)) (by first
        | (rw [if_pos c12]; first | done | rfl))

