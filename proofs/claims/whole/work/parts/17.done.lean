theorem rf_pl {S T : Sto} {pp : Nat} (h : T 0 = S 0) (hpl : (S 0 8).toNatClampNeg = pp) : rf T 0 8 = pp := by
  unfold rf
  rw [if_pos rfl, if_pos rfl, h]
  exact hpl
theorem push_o {S : Sto} {ee e i : Nat} (hlt : e < 16) (h : i < 41 ∨ 90 < i) : pushS S ee e i = S i := by
  unfold pushS
  rw [up2_ne _ _ _ (by omega), up2_ne _ _ _ (by omega), cop_o (by omega) (by omega) (by omega)]
theorem pp_far3 {pp : Nat} (h : jsh pp = (0, 6)) : 90 < pp := by
  rcases Nat.lt_or_ge 90 pp with q | q
  · exact q
  · exfalso
    have : ∀ k, k < 91 → jsh k ≠ (0, 6) := by decide
    exact this pp (by omega) h
def dayS (S : Sto) (pp e nl nc : Nat) (r : Int32) (n : Nat) : Sto := daysS (pushS S 3 e) pp 3 6 nl nc r n
def lookS (S : Sto) (pp e : Nat) : Sto := shrS (pushS S 3 e) 3 pp
def brushS (S : Sto) (e : Nat) (x : Int32) : Sto := let T := putS 25 (pushS S 3 e) 4 x (nI 0); up2 T 3 6 (T 3 6 + nI 1)
def fillV (f c b : Int32) : Int32 := if b = 0 then f &&& ((nI 1 <<< (c &&& 31)) ^^^ (-1)) else f ||| (nI 1 <<< (c &&& 31))
set_option maxHeartbeats 4000000 in
set_option maxRecDepth 100000 in
theorem c_X10_day (l : Launch) (C : JC) (hC : JInj C) (S : Sto) (pp : Nat) (hpl : (S 0 8).toNatClampNeg = pp) (h0 : jsh pp = (0, 6)) (h1 : jsh (pp + 1) = (1, 4)) (h2 : jsh (pp + 2) = (1, 6)) (h3 : jsh (pp + 3) = (1, 6)) (h4 : jsh (pp + 4) = (1, 5)) (nl : Nat) (hnl : S pp 8 = nI nl) (hll : nl ≤ 4) (nc : Nat) (hnc : S pp 9 = nI nc) (hle : nc ≤ 6) (e : Nat) (he : S 41 1 = nI e) (hlt : e < 16) (n r : Int32) : Con l C yX10_day cX10_day 3 (some .int) 6 [.ref (C.2.1 0), .int n, .int r] S (some (.int (if outP n (nI 1) (nI 60) ∨ outP r (nI 0) (nI 9) then -1000000002 else if plCells S pp = 0 then -1000000003 else if ¬ S 3 4 ≤ nI 9000 then -1000000004 else bcF (marksF (dayS S pp e nl nc r n.toNatClampNeg 4) 25)))) (if outP n (nI 1) (nI 60) ∨ outP r (nI 0) (nI 9) then S else if plCells S pp = 0 then S else if ¬ S 3 4 ≤ nI 9000 then S else dayS S pp e nl nc r n.toNatClampNeg) := by
  have hf : 90 < pp := pp_far3 h0
  refine con_of RX10 0 [some (.ref (C.2.1 0)), some (.int n), some (.int r)] (by decide) rfl hC (Nat.le_of_ble_eq_true rfl) rfl (Nat.le_of_ble_eq_true rfl) (fun E hE hR => ?_)
  refine j_iload1 hE dX10_day_0 ?_
  refine j_iconst hE (nI 1) dX10_day_1 kiconst_1 ?_
  refine j_bipush hE (nI 60) dX10_day_2 kbipush_60 ?_
  refine j_S3i hE mX10_75 (c_X10_outside l C hC _ _ _ _) dX10_day_4 (by decide) (Nat.le_of_ble_eq_true rfl) ?_
  first | refine j_ifneP hE 20 dX10_day_7 (by decide) (fun c7 => ?_) (fun c7 => ?_) | refine j_ifne hE 20 dX10_day_7 (by decide) (fun c7 => ?_) (fun c7 => ?_)
  · skip
    refine j_ldc hE dX10_day_20 kX10_79 ?_
    exact j_iret hE hR dX10_day_22 (by first
        | (rw [if_pos (Or.inl c7)]; first | done | rfl)
        | (rw [if_pos (Or.inr c17)]; first | done | rfl)) (by first
        | (rw [if_pos (Or.inl c7)]; first | done | rfl)
        | (rw [if_pos (Or.inr c17)]; first | done | rfl))
  · skip
    refine j_iload2 hE dX10_day_10 ?_
    refine j_iconst hE (nI 0) dX10_day_11 kiconst_0 ?_
    refine j_bipush hE (nI 9) dX10_day_12 kbipush_9 ?_
    refine j_S3i hE mX10_75 (c_X10_outside l C hC _ _ _ _) dX10_day_14 (by decide) (Nat.le_of_ble_eq_true rfl) ?_
    first | refine j_ifeqP hE 23 dX10_day_17 (by decide) (fun c17 => ?_) (fun c17 => ?_) | refine j_ifeq hE 23 dX10_day_17 (by decide) (fun c17 => ?_) (fun c17 => ?_)
    · skip
      refine j_aload0 hE dX10_day_23 ?_
      refine j_V0i hE mX10_219 (c_X10_noWall l C hC _ pp hpl h0 h1 h2 h3 h4) dX10_day_24 (by first | assumption | rfl) (by decide) (Nat.le_of_ble_eq_true rfl) ?_
      first | refine j_ifeqP hE 33 dX10_day_27 (by decide) (fun c27 => ?_) (fun c27 => ?_) | refine j_ifeq hE 33 dX10_day_27 (by decide) (fun c27 => ?_) (fun c27 => ?_)
      · skip
        refine j_aload0 hE dX10_day_33 ?_
        refine j_getr hE fX10_19 dX10_day_34 (j := 3) (by first | assumption | rfl) (rfl) ?_
        refine j_geti hE fX10_129 dX10_day_37 (by first | assumption | rfl) ?_
        refine j_sipush hE (nI 9000) dX10_day_40 ksipush_9000 ?_
        refine j_icmple hE 49 dX10_day_43 (by decide) (fun c43 => ?_) (fun c43 => ?_)
        · skip
          obtain ⟨k, hk1, hk2, rfl⟩ := out_n (by decide) c7 (by decide)
          refine j_aload0 hE dX10_day_49 ?_
          refine j_getr hE fX10_40 dX10_day_50 (j := 41) (by first | assumption | rfl) (rfl) ?_
          refine j_aload0 hE dX10_day_53 ?_
          refine j_getr hE fX10_19 dX10_day_54 (j := 3) (by first | assumption | rfl) (rfl) ?_
          refine j_V1v hE mX10_225 (c_X6_push l C hC _ 3 rfl rfl rfl e he hlt) dX10_day_57 (by first | assumption | rfl) (by decide) (Nat.le_of_ble_eq_true rfl) ?_
          refine j_aload0 hE dX10_day_60 ?_
          refine j_getr hE fX10_26 dX10_day_61 (j := 6) (by first | assumption | rfl) (rfl) ?_
          refine j_aload0 hE dX10_day_64 ?_
          refine j_getr hE fX10_67 dX10_day_65 (j := pp) (by first | assumption | rfl) (rf_pl (push_o hlt (Or.inl (by decide))) hpl) ?_
          refine j_aload0 hE dX10_day_68 ?_
          refine j_getr hE fX10_19 dX10_day_69 (j := 3) (by first | assumption | rfl) (rfl) ?_
          refine j_iload1 hE dX10_day_72 ?_
          refine j_iload2 hE dX10_day_73 ?_
          refine j_V4v hE mX10_229 (c_X3_rainDays l C hC _ pp h0 h1 h2 h3 h4 3 rfl rfl rfl 6 rfl rfl rfl nl (by rw [push_o hlt (Or.inr hf)]; exact hnl) hll nc (by rw [push_o hlt (Or.inr hf)]; exact hnc) hle k (by omega) r) dX10_day_74 (by first | assumption | rfl) (by decide) (Nat.le_of_ble_eq_true rfl) ?_
          refine j_aload0 hE dX10_day_77 ?_
          refine j_getr hE fX10_19 dX10_day_78 (j := 3) (by first | assumption | rfl) (rfl) ?_
          refine j_V0i hE mX10_233 (c_X1_markCount l C hC _ 3 rfl rfl rfl) dX10_day_81 (by first | assumption | rfl) (by decide) (Nat.le_of_ble_eq_true rfl) ?_
          exact j_iret hE hR dX10_day_84 (by first
              | (rw [if_neg (fun z => z.elim c7 c17), if_neg c27, if_neg (fun z => z c43), nI_clamp (by omega)]; first | done | rfl)) (by first
              | (rw [if_neg (fun z => z.elim c7 c17), if_neg c27, if_neg (fun z => z c43), nI_clamp (by omega)]; first | done | rfl))
        · skip
          refine j_ldc hE dX10_day_46 kX10_224 ?_
          exact j_iret hE hR dX10_day_48 (by first
              | (rw [if_neg (fun z => z.elim c7 c17), if_neg c27, if_pos c43]; first | done | rfl)) (by first
              | (rw [if_neg (fun z => z.elim c7 c17), if_neg c27, if_pos c43]; first | done | rfl))
      · skip
        refine j_ldc hE dX10_day_30 kX10_223 ?_
        exact j_iret hE hR dX10_day_32 (by first
            | (rw [if_neg (fun z => z.elim c7 c17), if_pos c27]; first | done | rfl)) (by first
            | (rw [if_neg (fun z => z.elim c7 c17), if_pos c27]; first | done | rfl))
    · skip
      refine j_ldc hE dX10_day_20 kX10_79 ?_
      exact j_iret hE hR dX10_day_22 (by first
          | (rw [if_pos (Or.inl c7)]; first | done | rfl)
          | (rw [if_pos (Or.inr c17)]; first | done | rfl)) (by first
          | (rw [if_pos (Or.inl c7)]; first | done | rfl)
          | (rw [if_pos (Or.inr c17)]; first | done | rfl))

set_option maxHeartbeats 4000000 in
set_option maxRecDepth 100000 in
theorem c_X10_look (l : Launch) (C : JC) (hC : JInj C) (S : Sto) (pp : Nat) (hpl : (S 0 8).toNatClampNeg = pp) (h0 : jsh pp = (0, 6)) (h1 : jsh (pp + 1) = (1, 4)) (h2 : jsh (pp + 2) = (1, 6)) (h3 : jsh (pp + 3) = (1, 6)) (h4 : jsh (pp + 4) = (1, 5)) (e : Nat) (he : S 41 1 = nI e) (hlt : e < 16)  : Con l C yX10_look cX10_look 1 (some .int) 6 [.ref (C.2.1 0)] S (some (.int (if plCells S pp = 0 then -1000000003 else bcF (marksF (lookS S pp e 4) 25)))) (if plCells S pp = 0 then S else lookS S pp e) := by
  have hf : 90 < pp := pp_far3 h0
  refine con_of RX10 0 [some (.ref (C.2.1 0))] (by decide) rfl hC (Nat.le_of_ble_eq_true rfl) rfl (Nat.le_of_ble_eq_true rfl) (fun E hE hR => ?_)
  refine j_aload0 hE dX10_look_0 ?_
  refine j_V0i hE mX10_219 (c_X10_noWall l C hC _ pp hpl h0 h1 h2 h3 h4) dX10_look_1 (by first | assumption | rfl) (by decide) (Nat.le_of_ble_eq_true rfl) ?_
  first | refine j_ifeqP hE 10 dX10_look_4 (by decide) (fun c4 => ?_) (fun c4 => ?_) | refine j_ifeq hE 10 dX10_look_4 (by decide) (fun c4 => ?_) (fun c4 => ?_)
  · skip
    refine j_aload0 hE dX10_look_10 ?_
    refine j_getr hE fX10_40 dX10_look_11 (j := 41) (by first | assumption | rfl) (rfl) ?_
    refine j_aload0 hE dX10_look_14 ?_
    refine j_getr hE fX10_19 dX10_look_15 (j := 3) (by first | assumption | rfl) (rfl) ?_
    refine j_V1v hE mX10_225 (c_X6_push l C hC _ 3 rfl rfl rfl e he hlt) dX10_look_18 (by first | assumption | rfl) (by decide) (Nat.le_of_ble_eq_true rfl) ?_
    refine j_aload0 hE dX10_look_21 ?_
    refine j_getr hE fX10_19 dX10_look_22 (j := 3) (by first | assumption | rfl) (rfl) ?_
    refine j_aload0 hE dX10_look_25 ?_
    refine j_getr hE fX10_67 dX10_look_26 (j := pp) (by first | assumption | rfl) (rf_pl (push_o hlt (Or.inl (by decide))) hpl) ?_
    refine j_V1v hE mX10_236 (c_X1_shrink l C hC _ 3 rfl rfl rfl pp h0) dX10_look_29 (by first | assumption | rfl) (by decide) (Nat.le_of_ble_eq_true rfl) ?_
    refine j_aload0 hE dX10_look_32 ?_
    refine j_getr hE fX10_19 dX10_look_33 (j := 3) (by first | assumption | rfl) (rfl) ?_
    refine j_V0i hE mX10_233 (c_X1_markCount l C hC _ 3 rfl rfl rfl) dX10_look_36 (by first | assumption | rfl) (by decide) (Nat.le_of_ble_eq_true rfl) ?_
    exact j_iret hE hR dX10_look_39 (by first
        | (rw [if_neg c4]; first | done | rfl)) (by first
        | (rw [if_neg c4]; first | done | rfl))
  · skip
    refine j_ldc hE dX10_look_7 kX10_223 ?_
    exact j_iret hE hR dX10_look_9 (by first
        | (rw [if_pos c4]; first | done | rfl)) (by first
        | (rw [if_pos c4]; first | done | rfl))

set_option maxHeartbeats 4000000 in
set_option maxRecDepth 100000 in
theorem c_X10_brush (l : Launch) (C : JC) (hC : JInj C) (S : Sto) (pp : Nat) (hpl : (S 0 8).toNatClampNeg = pp) (h0 : jsh pp = (0, 6)) (h1 : jsh (pp + 1) = (1, 4)) (h2 : jsh (pp + 2) = (1, 6)) (h3 : jsh (pp + 3) = (1, 6)) (h4 : jsh (pp + 4) = (1, 5)) (e : Nat) (he : S 41 1 = nI e) (hlt : e < 16) (x : Int32) : Con l C yX10_brush cX10_brush 3 (some .int) 5 [.ref (C.2.1 0), .int x] S (some (.int (if ¬ hasP (plCells S pp) x then -1000000001 else pickF 25 (pushS S 3 e 4) x))) (if ¬ hasP (plCells S pp) x then S else brushS S e x) := by
  have hf : 90 < pp := pp_far3 h0
  refine con_of RX10 1 [some (.ref (C.2.1 0)), some (.int x), none] (by decide) rfl hC (Nat.le_of_ble_eq_true rfl) rfl (Nat.le_of_ble_eq_true rfl) (fun E hE hR => ?_)
  refine j_aload0 hE dX10_brush_0 ?_
  refine j_getr hE fX10_67 dX10_brush_1 (j := pp) (by first | assumption | rfl) (by assumption) ?_
  refine j_iload1 hE dX10_brush_4 ?_
  refine j_V1i hE mX10_173 (c_X7_hasCell l C hC _ pp h0 x) dX10_brush_5 (by first | assumption | rfl) (by decide) (Nat.le_of_ble_eq_true rfl) ?_
  first | refine j_ifneP hE 14 dX10_brush_8 (by decide) (fun c8 => ?_) (fun c8 => ?_) | refine j_ifne hE 14 dX10_brush_8 (by decide) (fun c8 => ?_) (fun c8 => ?_)
  · skip
    refine j_aload0 hE dX10_brush_14 ?_
    refine j_getr hE fX10_40 dX10_brush_15 (j := 41) (by first | assumption | rfl) (rfl) ?_
    refine j_aload0 hE dX10_brush_18 ?_
    refine j_getr hE fX10_19 dX10_brush_19 (j := 3) (by first | assumption | rfl) (rfl) ?_
    refine j_V1v hE mX10_225 (c_X6_push l C hC _ 3 rfl rfl rfl e he hlt) dX10_brush_22 (by first | assumption | rfl) (by decide) (Nat.le_of_ble_eq_true rfl) ?_
    refine j_aload0 hE dX10_brush_25 ?_
    refine j_getr hE fX10_19 dX10_brush_26 (j := 3) (by first | assumption | rfl) (rfl) ?_
    refine j_getr hE fX10_177 dX10_brush_29 (by first | assumption | rfl) (rf_o (by first | assumption | rfl) (by decide)) ?_
    refine j_iload1 hE dX10_brush_32 ?_
    refine j_S2i hE mX10_181 (c_X10_pick l C hC _ 4 25 rfl (by decide) x) dX10_brush_33 (by decide) (Nat.le_of_ble_eq_true rfl) ?_
    refine j_istore2 hE dX10_brush_36 rfl ?_
    refine j_aload0 hE dX10_brush_37 ?_
    refine j_getr hE fX10_19 dX10_brush_38 (j := 3) (by first | assumption | rfl) (rfl) ?_
    refine j_getr hE fX10_177 dX10_brush_41 (by first | assumption | rfl) (rf_o (by first | assumption | rfl) (by decide)) ?_
    refine j_iload1 hE dX10_brush_44 ?_
    refine j_iconst hE (nI 0) dX10_brush_45 kiconst_0 ?_
    refine j_S3v hE mX10_239 (c_X10_put l C hC _ 4 25 rfl (by decide) x _) dX10_brush_46 (by decide) (Nat.le_of_ble_eq_true rfl) ?_
    refine j_aload0 hE dX10_brush_49 ?_
    refine j_getr hE fX10_19 dX10_brush_50 (j := 3) (by first | assumption | rfl) (rfl) ?_
    refine j_dup hE dX10_brush_53 rfl ?_
    refine j_geti hE fX10_144 dX10_brush_54 (by first | assumption | rfl) ?_
    refine j_iconst hE (nI 1) dX10_brush_57 kiconst_1 ?_
    refine j_iadd hE dX10_brush_58 ?_
    refine j_puti hE pX10_144 dX10_brush_59 (by first | assumption | rfl) rfl rfl ?_
    refine j_iload2 hE dX10_brush_62 ?_
    exact j_iret hE hR dX10_brush_63 (by first
        | (rw [if_neg (fun z => z c8)]; first | done | rfl)) (by first
        | (rw [if_neg (fun z => z c8)]; first | done | rfl))
  · skip
    refine j_ldc hE dX10_brush_11 kX10_185 ?_
    exact j_iret hE hR dX10_brush_13 (by first
        | (rw [if_pos c8]; first | done | rfl)) (by first
        | (rw [if_pos c8]; first | done | rfl))

set_option maxHeartbeats 4000000 in
set_option maxRecDepth 100000 in
theorem c_X10_lead (l : Launch) (C : JC) (hC : JInj C) (S : Sto) (pp : Nat) (hpl : (S 0 8).toNatClampNeg = pp) (h0 : jsh pp = (0, 6)) (h1 : jsh (pp + 1) = (1, 4)) (h2 : jsh (pp + 2) = (1, 6)) (h3 : jsh (pp + 3) = (1, 6)) (h4 : jsh (pp + 4) = (1, 5)) (e : Nat) (he : S 41 1 = nI e) (hlt : e < 16) (l0 x : Int32) : Con l C yX10_lead cX10_lead 4 (some .int) 5 [.ref (C.2.1 0), .int l0, .int x] S (some (.int (if ¬ (hasP (S pp 8) l0 ∧ hasP (plCells S pp) x) then -1000000001 else pickF 4 (pushS S 3 e 5) l0))) (if ¬ (hasP (S pp 8) l0 ∧ hasP (plCells S pp) x) then S else putS 4 (pushS S 3 e) 5 l0 x) := by
  have hf : 90 < pp := pp_far3 h0
  refine con_of RX10 1 [some (.ref (C.2.1 0)), some (.int l0), some (.int x), none] (by decide) rfl hC (Nat.le_of_ble_eq_true rfl) rfl (Nat.le_of_ble_eq_true rfl) (fun E hE hR => ?_)
  refine j_aload0 hE dX10_lead_0 ?_
  refine j_getr hE fX10_67 dX10_lead_1 (j := pp) (by first | assumption | rfl) (by assumption) ?_
  refine j_iload1 hE dX10_lead_4 ?_
  refine j_V1i hE mX10_186 (c_X7_hasLeak l C hC _ pp h0 l0) dX10_lead_5 (by first | assumption | rfl) (by decide) (Nat.le_of_ble_eq_true rfl) ?_
  first | refine j_ifeqP hE 22 dX10_lead_8 (by decide) (fun c8 => ?_) (fun c8 => ?_) | refine j_ifeq hE 22 dX10_lead_8 (by decide) (fun c8 => ?_) (fun c8 => ?_)
  · skip
    refine j_ldc hE dX10_lead_22 kX10_185 ?_
    exact j_iret hE hR dX10_lead_24 (by first
        | (rw [if_pos (fun z => c8 z.1)]; first | done | rfl)
        | (rw [if_pos (fun z => c19 z.2)]; first | done | rfl)) (by first
        | (rw [if_pos (fun z => c8 z.1)]; first | done | rfl)
        | (rw [if_pos (fun z => c19 z.2)]; first | done | rfl))
  · skip
    refine j_aload0 hE dX10_lead_11 ?_
    refine j_getr hE fX10_67 dX10_lead_12 (j := pp) (by first | assumption | rfl) (by assumption) ?_
    refine j_iload2 hE dX10_lead_15 ?_
    refine j_V1i hE mX10_173 (c_X7_hasCell l C hC _ pp h0 x) dX10_lead_16 (by first | assumption | rfl) (by decide) (Nat.le_of_ble_eq_true rfl) ?_
    first | refine j_ifneP hE 25 dX10_lead_19 (by decide) (fun c19 => ?_) (fun c19 => ?_) | refine j_ifne hE 25 dX10_lead_19 (by decide) (fun c19 => ?_) (fun c19 => ?_)
    · skip
      refine j_aload0 hE dX10_lead_25 ?_
      refine j_getr hE fX10_40 dX10_lead_26 (j := 41) (by first | assumption | rfl) (rfl) ?_
      refine j_aload0 hE dX10_lead_29 ?_
      refine j_getr hE fX10_19 dX10_lead_30 (j := 3) (by first | assumption | rfl) (rfl) ?_
      refine j_V1v hE mX10_225 (c_X6_push l C hC _ 3 rfl rfl rfl e he hlt) dX10_lead_33 (by first | assumption | rfl) (by decide) (Nat.le_of_ble_eq_true rfl) ?_
      refine j_aload0 hE dX10_lead_36 ?_
      refine j_getr hE fX10_19 dX10_lead_37 (j := 3) (by first | assumption | rfl) (rfl) ?_
      refine j_getr hE fX10_189 dX10_lead_40 (by first | assumption | rfl) (rf_o (by first | assumption | rfl) (by decide)) ?_
      refine j_iload1 hE dX10_lead_43 ?_
      refine j_S2i hE mX10_181 (c_X10_pick l C hC _ 5 4 rfl (by decide) l0) dX10_lead_44 (by decide) (Nat.le_of_ble_eq_true rfl) ?_
      refine j_istore3 hE dX10_lead_47 rfl ?_
      refine j_aload0 hE dX10_lead_48 ?_
      refine j_getr hE fX10_19 dX10_lead_49 (j := 3) (by first | assumption | rfl) (rfl) ?_
      refine j_getr hE fX10_189 dX10_lead_52 (by first | assumption | rfl) (rf_o (by first | assumption | rfl) (by decide)) ?_
      refine j_iload1 hE dX10_lead_55 ?_
      refine j_iload2 hE dX10_lead_56 ?_
      refine j_S3v hE mX10_239 (c_X10_put l C hC _ 5 4 rfl (by decide) l0 x) dX10_lead_57 (by decide) (Nat.le_of_ble_eq_true rfl) ?_
      refine j_iload3 hE dX10_lead_60 ?_
      exact j_iret hE hR dX10_lead_61 (by first
          | (rw [if_neg (fun z => z ⟨c8, c19⟩)]; first | done | rfl)) (by first
          | (rw [if_neg (fun z => z ⟨c8, c19⟩)]; first | done | rfl))
    · skip
      refine j_ldc hE dX10_lead_22 kX10_185 ?_
      exact j_iret hE hR dX10_lead_24 (by first
          | (rw [if_pos (fun z => c8 z.1)]; first | done | rfl)
          | (rw [if_pos (fun z => c19 z.2)]; first | done | rfl)) (by first
          | (rw [if_pos (fun z => c8 z.1)]; first | done | rfl)
          | (rw [if_pos (fun z => c19 z.2)]; first | done | rfl))

set_option maxHeartbeats 4000000 in
set_option maxRecDepth 100000 in
theorem c_X10_wind (l : Launch) (C : JC) (hC : JInj C) (S : Sto) (pp : Nat) (hpl : (S 0 8).toNatClampNeg = pp) (h0 : jsh pp = (0, 6)) (h1 : jsh (pp + 1) = (1, 4)) (h2 : jsh (pp + 2) = (1, 6)) (h3 : jsh (pp + 3) = (1, 6)) (h4 : jsh (pp + 4) = (1, 5)) (e : Nat) (he : S 41 1 = nI e) (hlt : e < 16) (n : Int32) : Con l C yX10_wind cX10_wind 3 (some .int) 5 [.ref (C.2.1 0), .int n] S (some (.int (if outP n (nI 0) (nI 2) then -1000000002 else if plCells S pp = 0 then -1000000003 else pushS S 3 e 3 2))) (if outP n (nI 0) (nI 2) then S else if plCells S pp = 0 then S else up2 (pushS S 3 e) 3 2 n) := by
  have hf : 90 < pp := pp_far3 h0
  refine con_of RX10 1 [some (.ref (C.2.1 0)), some (.int n), none] (by decide) rfl hC (Nat.le_of_ble_eq_true rfl) rfl (Nat.le_of_ble_eq_true rfl) (fun E hE hR => ?_)
  refine j_iload1 hE dX10_wind_0 ?_
  refine j_iconst hE (nI 0) dX10_wind_1 kiconst_0 ?_
  refine j_iconst hE (nI 2) dX10_wind_2 kiconst_2 ?_
  refine j_S3i hE mX10_75 (c_X10_outside l C hC _ _ _ _) dX10_wind_3 (by decide) (Nat.le_of_ble_eq_true rfl) ?_
  first | refine j_ifeqP hE 12 dX10_wind_6 (by decide) (fun c6 => ?_) (fun c6 => ?_) | refine j_ifeq hE 12 dX10_wind_6 (by decide) (fun c6 => ?_) (fun c6 => ?_)
  · skip
    refine j_aload0 hE dX10_wind_12 ?_
    refine j_V0i hE mX10_219 (c_X10_noWall l C hC _ pp hpl h0 h1 h2 h3 h4) dX10_wind_13 (by first | assumption | rfl) (by decide) (Nat.le_of_ble_eq_true rfl) ?_
    first | refine j_ifeqP hE 22 dX10_wind_16 (by decide) (fun c16 => ?_) (fun c16 => ?_) | refine j_ifeq hE 22 dX10_wind_16 (by decide) (fun c16 => ?_) (fun c16 => ?_)
    · skip
      refine j_aload0 hE dX10_wind_22 ?_
      refine j_getr hE fX10_40 dX10_wind_23 (j := 41) (by first | assumption | rfl) (rfl) ?_
      refine j_aload0 hE dX10_wind_26 ?_
      refine j_getr hE fX10_19 dX10_wind_27 (j := 3) (by first | assumption | rfl) (rfl) ?_
      refine j_V1v hE mX10_225 (c_X6_push l C hC _ 3 rfl rfl rfl e he hlt) dX10_wind_30 (by first | assumption | rfl) (by decide) (Nat.le_of_ble_eq_true rfl) ?_
      refine j_aload0 hE dX10_wind_33 ?_
      refine j_getr hE fX10_19 dX10_wind_34 (j := 3) (by first | assumption | rfl) (rfl) ?_
      refine j_geti hE fX10_132 dX10_wind_37 (by first | assumption | rfl) ?_
      refine j_istore2 hE dX10_wind_40 rfl ?_
      refine j_aload0 hE dX10_wind_41 ?_
      refine j_getr hE fX10_19 dX10_wind_42 (j := 3) (by first | assumption | rfl) (rfl) ?_
      refine j_iload1 hE dX10_wind_45 ?_
      refine j_puti hE pX10_132 dX10_wind_46 (by first | assumption | rfl) rfl rfl ?_
      refine j_iload2 hE dX10_wind_49 ?_
      exact j_iret hE hR dX10_wind_50 (by first
          | (rw [if_neg c6, if_neg c16]; first | done | rfl)) (by first
          | (rw [if_neg c6, if_neg c16]; first | done | rfl))
    · skip
      refine j_ldc hE dX10_wind_19 kX10_223 ?_
      exact j_iret hE hR dX10_wind_21 (by first
          | (rw [if_neg c6, if_pos c16]; first | done | rfl)) (by first
          | (rw [if_neg c6, if_pos c16]; first | done | rfl))
  · skip
    refine j_ldc hE dX10_wind_9 kX10_79 ?_
    exact j_iret hE hR dX10_wind_11 (by first
        | (rw [if_pos c6]; first | done | rfl)) (by first
        | (rw [if_pos c6]; first | done | rfl))

set_option maxHeartbeats 4000000 in
set_option maxRecDepth 100000 in
theorem c_X10_fill (l : Launch) (C : JC) (hC : JInj C) (S : Sto) (pp : Nat) (hpl : (S 0 8).toNatClampNeg = pp) (h0 : jsh pp = (0, 6)) (h1 : jsh (pp + 1) = (1, 4)) (h2 : jsh (pp + 2) = (1, 6)) (h3 : jsh (pp + 3) = (1, 6)) (h4 : jsh (pp + 4) = (1, 5)) (e : Nat) (he : S 41 1 = nI e) (hlt : e < 16) (x b : Int32) : Con l C yX10_fill cX10_fill 4 (some .int) 5 [.ref (C.2.1 0), .int x, .int b] S (some (.int (if ¬ hasP (S pp 9) x then -1000000001 else (if bitP (pushS S 3 e 3 3) x then nI 1 else nI 0)))) (if ¬ hasP (S pp 9) x then S else up2 (pushS S 3 e) 3 3 (fillV (pushS S 3 e 3 3) x b)) := by
  have hf : 90 < pp := pp_far3 h0
  refine con_of RX10 1 [some (.ref (C.2.1 0)), some (.int x), some (.int b), none] (by decide) rfl hC (Nat.le_of_ble_eq_true rfl) rfl (Nat.le_of_ble_eq_true rfl) (fun E hE hR => ?_)
  refine j_aload0 hE dX10_fill_0 ?_
  refine j_getr hE fX10_67 dX10_fill_1 (j := pp) (by first | assumption | rfl) (by assumption) ?_
  refine j_iload1 hE dX10_fill_4 ?_
  refine j_V1i hE mX10_192 (c_X7_hasCrack l C hC _ pp h0 x) dX10_fill_5 (by first | assumption | rfl) (by decide) (Nat.le_of_ble_eq_true rfl) ?_
  first | refine j_ifneP hE 14 dX10_fill_8 (by decide) (fun c8 => ?_) (fun c8 => ?_) | refine j_ifne hE 14 dX10_fill_8 (by decide) (fun c8 => ?_) (fun c8 => ?_)
  · skip
    refine j_aload0 hE dX10_fill_14 ?_
    refine j_getr hE fX10_40 dX10_fill_15 (j := 41) (by first | assumption | rfl) (rfl) ?_
    refine j_aload0 hE dX10_fill_18 ?_
    refine j_getr hE fX10_19 dX10_fill_19 (j := 3) (by first | assumption | rfl) (rfl) ?_
    refine j_V1v hE mX10_225 (c_X6_push l C hC _ 3 rfl rfl rfl e he hlt) dX10_fill_22 (by first | assumption | rfl) (by decide) (Nat.le_of_ble_eq_true rfl) ?_
    refine j_aload0 hE dX10_fill_25 ?_
    refine j_getr hE fX10_19 dX10_fill_26 (j := 3) (by first | assumption | rfl) (rfl) ?_
    refine j_iload1 hE dX10_fill_29 ?_
    refine j_V1i hE mX10_201 (c_X1_isFilled l C hC _ 3 rfl rfl rfl x) dX10_fill_30 (by first | assumption | rfl) (by decide) (Nat.le_of_ble_eq_true rfl) ?_
    first | refine j_ifeqP hE 40 dX10_fill_33 (by decide) (fun c33 => ?_) (fun c33 => ?_) | refine j_ifeq hE 40 dX10_fill_33 (by decide) (fun c33 => ?_) (fun c33 => ?_)
    · skip
      refine j_iconst hE (nI 0) dX10_fill_40 kiconst_0 ?_
      refine j_istore3 hE dX10_fill_41 rfl ?_
      refine j_aload0 hE dX10_fill_42 ?_
      refine j_getr hE fX10_19 dX10_fill_43 (j := 3) (by first | assumption | rfl) (rfl) ?_
      refine j_iload2 hE dX10_fill_46 ?_
      refine j_ifeq hE 64 dX10_fill_47 (by decide) (fun c47 => ?_) (fun c47 => ?_)
      · skip
        refine j_aload0 hE dX10_fill_64 ?_
        refine j_getr hE fX10_19 dX10_fill_65 (j := 3) (by first | assumption | rfl) (rfl) ?_
        refine j_geti hE fX10_138 dX10_fill_68 (by first | assumption | rfl) ?_
        refine j_iconst hE (nI 1) dX10_fill_71 kiconst_1 ?_
        refine j_iload1 hE dX10_fill_72 ?_
        refine j_ishl hE dX10_fill_73 ?_
        refine j_iconst hE (-1) dX10_fill_74 kiconst_m1 ?_
        refine j_ixor hE dX10_fill_75 ?_
        refine j_iand hE dX10_fill_76 ?_
        refine j_puti hE pX10_138 dX10_fill_77 (by first | assumption | rfl) rfl rfl ?_
        refine j_iload3 hE dX10_fill_80 ?_
        exact j_iret hE hR dX10_fill_81 (by first
            | (rw [if_neg (fun z => z c8), if_pos c33]; first | done | rfl)
            | (rw [if_neg (fun z => z c8), if_neg c33]; first | done | rfl)) (by first
            | (rw [if_neg (fun z => z c8), fillV, if_pos c47]; first | done | rfl)
            | (rw [if_neg (fun z => z c8), fillV, if_neg c47]; first | done | rfl))
      · skip
        refine j_aload0 hE dX10_fill_50 ?_
        refine j_getr hE fX10_19 dX10_fill_51 (j := 3) (by first | assumption | rfl) (rfl) ?_
        refine j_geti hE fX10_138 dX10_fill_54 (by first | assumption | rfl) ?_
        refine j_iconst hE (nI 1) dX10_fill_57 kiconst_1 ?_
        refine j_iload1 hE dX10_fill_58 ?_
        refine j_ishl hE dX10_fill_59 ?_
        refine j_ior hE dX10_fill_60 ?_
        refine j_goto hE 77 dX10_fill_61 (by decide) ?_
        refine j_puti hE pX10_138 dX10_fill_77 (by first | assumption | rfl) rfl rfl ?_
        refine j_iload3 hE dX10_fill_80 ?_
        exact j_iret hE hR dX10_fill_81 (by first
            | (rw [if_neg (fun z => z c8), if_pos c33]; first | done | rfl)
            | (rw [if_neg (fun z => z c8), if_neg c33]; first | done | rfl)) (by first
            | (rw [if_neg (fun z => z c8), fillV, if_pos c47]; first | done | rfl)
            | (rw [if_neg (fun z => z c8), fillV, if_neg c47]; first | done | rfl))
    · skip
      refine j_iconst hE (nI 1) dX10_fill_36 kiconst_1 ?_
      refine j_goto hE 41 dX10_fill_37 (by decide) ?_
      refine j_istore3 hE dX10_fill_41 rfl ?_
      refine j_aload0 hE dX10_fill_42 ?_
      refine j_getr hE fX10_19 dX10_fill_43 (j := 3) (by first | assumption | rfl) (rfl) ?_
      refine j_iload2 hE dX10_fill_46 ?_
      refine j_ifeq hE 64 dX10_fill_47 (by decide) (fun c47 => ?_) (fun c47 => ?_)
      · skip
        refine j_aload0 hE dX10_fill_64 ?_
        refine j_getr hE fX10_19 dX10_fill_65 (j := 3) (by first | assumption | rfl) (rfl) ?_
        refine j_geti hE fX10_138 dX10_fill_68 (by first | assumption | rfl) ?_
        refine j_iconst hE (nI 1) dX10_fill_71 kiconst_1 ?_
        refine j_iload1 hE dX10_fill_72 ?_
        refine j_ishl hE dX10_fill_73 ?_
        refine j_iconst hE (-1) dX10_fill_74 kiconst_m1 ?_
        refine j_ixor hE dX10_fill_75 ?_
        refine j_iand hE dX10_fill_76 ?_
        refine j_puti hE pX10_138 dX10_fill_77 (by first | assumption | rfl) rfl rfl ?_
        refine j_iload3 hE dX10_fill_80 ?_
        exact j_iret hE hR dX10_fill_81 (by first
            | (rw [if_neg (fun z => z c8), if_pos c33]; first | done | rfl)
            | (rw [if_neg (fun z => z c8), if_neg c33]; first | done | rfl)) (by first
            | (rw [if_neg (fun z => z c8), fillV, if_pos c47]; first | done | rfl)
            | (rw [if_neg (fun z => z c8), fillV, if_neg c47]; first | done | rfl))
      · skip
        refine j_aload0 hE dX10_fill_50 ?_
        refine j_getr hE fX10_19 dX10_fill_51 (j := 3) (by first | assumption | rfl) (rfl) ?_
        refine j_geti hE fX10_138 dX10_fill_54 (by first | assumption | rfl) ?_
        refine j_iconst hE (nI 1) dX10_fill_57 kiconst_1 ?_
        refine j_iload1 hE dX10_fill_58 ?_
        refine j_ishl hE dX10_fill_59 ?_
        refine j_ior hE dX10_fill_60 ?_
        refine j_goto hE 77 dX10_fill_61 (by decide) ?_
        refine j_puti hE pX10_138 dX10_fill_77 (by first | assumption | rfl) rfl rfl ?_
        refine j_iload3 hE dX10_fill_80 ?_
        exact j_iret hE hR dX10_fill_81 (by first
            | (rw [if_neg (fun z => z c8), if_pos c33]; first | done | rfl)
            | (rw [if_neg (fun z => z c8), if_neg c33]; first | done | rfl)) (by first
            | (rw [if_neg (fun z => z c8), fillV, if_pos c47]; first | done | rfl)
            | (rw [if_neg (fun z => z c8), fillV, if_neg c47]; first | done | rfl))
  · skip
    refine j_ldc hE dX10_fill_11 kX10_185 ?_
    exact j_iret hE hR dX10_fill_13 (by first
        | (rw [if_pos c8]; first | done | rfl)) (by first
        | (rw [if_pos c8]; first | done | rfl))

def d1S (S : Sto) (pp nl nc : Nat) : Sto :=
  let A := up2 S 94 0 (lcg (S 94 0))
  let B := rainS A pp 3 6 nl nc (drawF (lcg (S 94 0)) (nI 10))
  let D := up2 B 94 0 (lcg (B 94 0))
  let t := drawF (lcg (B 94 0)) (nI 6)
  if t = 0 then shrS D 3 pp
  else if t = nI 1 then (let F := up2 D 94 0 (lcg (D 94 0)); up2 F 3 2 (drawF (lcg (D 94 0)) (nI 3)))
  else if t = nI 2 ∧ ¬ D pp 8 ≤ 0 then (let F := up2 D 94 0 (lcg (D 94 0)); let G := up2 F 94 0 (lcg (F 94 0)); putS 4 G 5 (drawF (lcg (D 94 0)) (D pp 8)) (drawF (lcg (F 94 0)) (plCells F pp)))
  else D
theorem d1_o {S : Sto} {pp nl nc i : Nat} (h : i < 3 ∨ i = 6 ∨ (8 < i ∧ i < 94) ∨ 94 < i) : d1S S pp nl nc i = S i := by
  unfold d1S
  dsimp only
  split
  · rw [shr_o (by omega) (by omega), up2_ne _ _ _ (by omega), rain_o (by omega) (by omega) (by omega) (by omega), up2_ne _ _ _ (by omega)]
  · split
    · rw [up2_ne _ _ _ (by omega), up2_ne _ _ _ (by omega), up2_ne _ _ _ (by omega), rain_o (by omega) (by omega) (by omega) (by omega), up2_ne _ _ _ (by omega)]
    · split
      · rw [put_o (by omega), up2_ne _ _ _ (by omega), up2_ne _ _ _ (by omega), up2_ne _ _ _ (by omega), rain_o (by omega) (by omega) (by omega) (by omega), up2_ne _ _ _ (by omega)]
      · rw [up2_ne _ _ _ (by omega), rain_o (by omega) (by omega) (by omega) (by omega), up2_ne _ _ _ (by omega)]
def d1N (S : Sto) (pp nl nc : Nat) : Nat → Sto
  | 0 => S
  | n + 1 => d1S (d1N S pp nl nc n) pp nl nc
theorem d1N_o {S : Sto} {pp nl nc i : Nat} (h : i < 3 ∨ i = 6 ∨ (8 < i ∧ i < 94) ∨ 94 < i) : ∀ n, d1N S pp nl nc n i = S i
  | 0 => rfl
  | n + 1 => by rw [d1N, d1_o h, d1N_o h n]
set_option maxHeartbeats 4000000 in
set_option maxRecDepth 100000 in
theorem c_X10_driftOneDay (l : Launch) (C : JC) (hC : JInj C) (S : Sto) (pp : Nat) (hpl : (S 0 8).toNatClampNeg = pp) (h0 : jsh pp = (0, 6)) (h1 : jsh (pp + 1) = (1, 4)) (h2 : jsh (pp + 2) = (1, 6)) (h3 : jsh (pp + 3) = (1, 6)) (h4 : jsh (pp + 4) = (1, 5)) (nl : Nat) (hnl : S pp 8 = nI nl) (hll : nl ≤ 4) (nc : Nat) (hnc : S pp 9 = nI nc) (hle : nc ≤ 6)  : Con l C yX10_driftOneDay cX10_driftOneDay 3 none 6 [.ref (C.2.1 0)] S none (d1S S pp nl nc) := by
  have hf0 : 90 < pp := pp_far3 h0
  have hf1 : pp ≠ 94 := ne_sh h0 (show jsh 94 = (0, 2) from rfl) (by decide)
  refine con_of RX10 2 [some (.ref (C.2.1 0)), none, none] (by decide) rfl hC (Nat.le_of_ble_eq_true rfl) rfl (Nat.le_of_ble_eq_true rfl) (fun E hE hR => ?_)
  refine j_aload0 hE dX10_driftOneDay_0 ?_
  refine j_getr hE fX10_26 dX10_driftOneDay_1 (j := 6) (by first | assumption | rfl) (rfl) ?_
  refine j_aload0 hE dX10_driftOneDay_4 ?_
  refine j_getr hE fX10_67 dX10_driftOneDay_5 (j := pp) (by first | assumption | rfl) (by assumption) ?_
  refine j_aload0 hE dX10_driftOneDay_8 ?_
  refine j_getr hE fX10_19 dX10_driftOneDay_9 (j := 3) (by first | assumption | rfl) (rfl) ?_
  refine j_aload0 hE dX10_driftOneDay_12 ?_
  refine j_getr hE fX10_54 dX10_driftOneDay_13 (j := 94) (by first | assumption | rfl) (rfl) ?_
  refine j_bipush hE (nI 10) dX10_driftOneDay_16 kbipush_10 ?_
  refine j_V1i hE mX10_309 (c_X2_draw l C hC _ _) dX10_driftOneDay_18 (by first | assumption | rfl) (by decide) (Nat.le_of_ble_eq_true rfl) ?_
  refine j_V3v hE mX10_312 (c_X3_rainDay l C hC _ pp h0 h1 h2 h3 h4 3 rfl rfl rfl 6 rfl rfl rfl nl (by rw [up2_ne _ _ _ hf1]; exact hnl) hll nc (by rw [up2_ne _ _ _ hf1]; exact hnc) hle _) dX10_driftOneDay_21 (by first | assumption | rfl) (by decide) (Nat.le_of_ble_eq_true rfl) ?_
  refine j_aload0 hE dX10_driftOneDay_24 ?_
  refine j_getr hE fX10_54 dX10_driftOneDay_25 (j := 94) (by first | assumption | rfl) (rfl) ?_
  refine j_bipush hE (nI 6) dX10_driftOneDay_28 kbipush_6 ?_
  refine j_V1i hE mX10_309 (c_X2_draw l C hC _ _) dX10_driftOneDay_30 (by first | assumption | rfl) (by decide) (Nat.le_of_ble_eq_true rfl) ?_
  refine j_istore1 hE dX10_driftOneDay_33 rfl ?_
  refine j_iload1 hE dX10_driftOneDay_34 ?_
  refine j_ifne hE 52 dX10_driftOneDay_35 (by decide) (fun c35 => ?_) (fun c35 => ?_)
  · skip
    refine j_iload1 hE dX10_driftOneDay_52 ?_
    refine j_iconst hE (nI 1) dX10_driftOneDay_53 kiconst_1 ?_
    refine j_icmpne hE 75 dX10_driftOneDay_54 (by decide) (fun c54 => ?_) (fun c54 => ?_)
    · skip
      refine j_iload1 hE dX10_driftOneDay_75 ?_
      refine j_iconst hE (nI 2) dX10_driftOneDay_76 kiconst_2 ?_
      refine j_icmpne hE 130 dX10_driftOneDay_77 (by decide) (fun c77 => ?_) (fun c77 => ?_)
      · skip
        exact j_vret hE hR dX10_driftOneDay_130 (by first
            | (rw [d1S, if_pos c35]; first | done | rfl)
            | (rw [d1S, if_neg c35, if_pos c54]; first | done | rfl)
            | (rw [d1S, if_neg c35, if_neg c54, if_neg (fun z => c77 z.1)]; first | done | rfl)
            | (rw [d1S, if_neg c35, if_neg c54, if_neg (fun z => z.2 c87)]; first | done | rfl)
            | (rw [d1S, if_neg c35, if_neg c54, if_pos ⟨c77, c87⟩]; first | done | rfl))
      · skip
        refine j_aload0 hE dX10_driftOneDay_80 ?_
        refine j_getr hE fX10_67 dX10_driftOneDay_81 (j := pp) (by first | assumption | rfl) (rf_pl (by rw [up2_ne (j := 0) _ _ _ (by decide), rain_o (by decide) (by decide) (by decide) (by decide), up2_ne (j := 0) _ _ _ (by decide)]) hpl) ?_
        refine j_geti hE fX10_117 dX10_driftOneDay_84 (by first | assumption | rfl) ?_
        refine j_ifle hE 130 dX10_driftOneDay_87 (by decide) (fun c87 => ?_) (fun c87 => ?_)
        · skip
          exact j_vret hE hR dX10_driftOneDay_130 (by first
              | (rw [d1S, if_pos c35]; first | done | rfl)
              | (rw [d1S, if_neg c35, if_pos c54]; first | done | rfl)
              | (rw [d1S, if_neg c35, if_neg c54, if_neg (fun z => c77 z.1)]; first | done | rfl)
              | (rw [d1S, if_neg c35, if_neg c54, if_neg (fun z => z.2 c87)]; first | done | rfl)
              | (rw [d1S, if_neg c35, if_neg c54, if_pos ⟨c77, c87⟩]; first | done | rfl))
        · skip
          refine j_aload0 hE dX10_driftOneDay_90 ?_
          refine j_getr hE fX10_54 dX10_driftOneDay_91 (j := 94) (by first | assumption | rfl) (rfl) ?_
          refine j_aload0 hE dX10_driftOneDay_94 ?_
          refine j_getr hE fX10_67 dX10_driftOneDay_95 (j := pp) (by first | assumption | rfl) (rf_pl (by rw [up2_ne (j := 0) _ _ _ (by decide), rain_o (by decide) (by decide) (by decide) (by decide), up2_ne (j := 0) _ _ _ (by decide)]) hpl) ?_
          refine j_geti hE fX10_117 dX10_driftOneDay_98 (by first | assumption | rfl) ?_
          refine j_V1i hE mX10_309 (c_X2_draw l C hC _ _) dX10_driftOneDay_101 (by first | assumption | rfl) (by decide) (Nat.le_of_ble_eq_true rfl) ?_
          refine j_istore2 hE dX10_driftOneDay_104 rfl ?_
          refine j_aload0 hE dX10_driftOneDay_105 ?_
          refine j_getr hE fX10_19 dX10_driftOneDay_106 (j := 3) (by first | assumption | rfl) (rfl) ?_
          refine j_getr hE fX10_189 dX10_driftOneDay_109 (by first | assumption | rfl) (rf_o (by first | assumption | rfl) (by decide)) ?_
          refine j_iload2 hE dX10_driftOneDay_112 ?_
          refine j_aload0 hE dX10_driftOneDay_113 ?_
          refine j_getr hE fX10_54 dX10_driftOneDay_114 (j := 94) (by first | assumption | rfl) (rfl) ?_
          refine j_aload0 hE dX10_driftOneDay_117 ?_
          refine j_getr hE fX10_67 dX10_driftOneDay_118 (j := pp) (by first | assumption | rfl) (rf_pl (by rw [up2_ne (j := 0) _ _ _ (by decide), up2_ne (j := 0) _ _ _ (by decide), rain_o (by decide) (by decide) (by decide) (by decide), up2_ne (j := 0) _ _ _ (by decide)]) hpl) ?_
          refine j_V0i hE mX10_104 (c_X7_cells l C hC _ pp h0) dX10_driftOneDay_121 (by first | assumption | rfl) (by decide) (Nat.le_of_ble_eq_true rfl) ?_
          refine j_V1i hE mX10_309 (c_X2_draw l C hC _ _) dX10_driftOneDay_124 (by first | assumption | rfl) (by decide) (Nat.le_of_ble_eq_true rfl) ?_
          refine j_S3v hE mX10_239 (c_X10_put l C hC _ 5 4 rfl (by decide) _ _) dX10_driftOneDay_127 (by decide) (Nat.le_of_ble_eq_true rfl) ?_
          exact j_vret hE hR dX10_driftOneDay_130 (by first
              | (rw [d1S, if_pos c35]; first | done | rfl)
              | (rw [d1S, if_neg c35, if_pos c54]; first | done | rfl)
              | (rw [d1S, if_neg c35, if_neg c54, if_neg (fun z => c77 z.1)]; first | done | rfl)
              | (rw [d1S, if_neg c35, if_neg c54, if_neg (fun z => z.2 c87)]; first | done | rfl)
              | (rw [d1S, if_neg c35, if_neg c54, if_pos ⟨c77, c87⟩]; first | done | rfl))
    · skip
      refine j_aload0 hE dX10_driftOneDay_57 ?_
      refine j_getr hE fX10_19 dX10_driftOneDay_58 (j := 3) (by first | assumption | rfl) (rfl) ?_
      refine j_aload0 hE dX10_driftOneDay_61 ?_
      refine j_getr hE fX10_54 dX10_driftOneDay_62 (j := 94) (by first | assumption | rfl) (rfl) ?_
      refine j_iconst hE (nI 3) dX10_driftOneDay_65 kiconst_3 ?_
      refine j_V1i hE mX10_309 (c_X2_draw l C hC _ _) dX10_driftOneDay_66 (by first | assumption | rfl) (by decide) (Nat.le_of_ble_eq_true rfl) ?_
      refine j_puti hE pX10_132 dX10_driftOneDay_69 (by first | assumption | rfl) rfl rfl ?_
      refine j_goto hE 130 dX10_driftOneDay_72 (by decide) ?_
      exact j_vret hE hR dX10_driftOneDay_130 (by first
          | (rw [d1S, if_pos c35]; first | done | rfl)
          | (rw [d1S, if_neg c35, if_pos c54]; first | done | rfl)
          | (rw [d1S, if_neg c35, if_neg c54, if_neg (fun z => c77 z.1)]; first | done | rfl)
          | (rw [d1S, if_neg c35, if_neg c54, if_neg (fun z => z.2 c87)]; first | done | rfl)
          | (rw [d1S, if_neg c35, if_neg c54, if_pos ⟨c77, c87⟩]; first | done | rfl))
  · skip
    refine j_aload0 hE dX10_driftOneDay_38 ?_
    refine j_getr hE fX10_19 dX10_driftOneDay_39 (j := 3) (by first | assumption | rfl) (rfl) ?_
    refine j_aload0 hE dX10_driftOneDay_42 ?_
    refine j_getr hE fX10_67 dX10_driftOneDay_43 (j := pp) (by first | assumption | rfl) (rf_pl (by rw [up2_ne (j := 0) _ _ _ (by decide), rain_o (by decide) (by decide) (by decide) (by decide), up2_ne (j := 0) _ _ _ (by decide)]) hpl) ?_
    refine j_V1v hE mX10_236 (c_X1_shrink l C hC _ 3 rfl rfl rfl pp h0) dX10_driftOneDay_46 (by first | assumption | rfl) (by decide) (Nat.le_of_ble_eq_true rfl) ?_
    refine j_goto hE 130 dX10_driftOneDay_49 (by decide) ?_
    exact j_vret hE hR dX10_driftOneDay_130 (by first
        | (rw [d1S, if_pos c35]; first | done | rfl)
        | (rw [d1S, if_neg c35, if_pos c54]; first | done | rfl)
        | (rw [d1S, if_neg c35, if_neg c54, if_neg (fun z => c77 z.1)]; first | done | rfl)
        | (rw [d1S, if_neg c35, if_neg c54, if_neg (fun z => z.2 c87)]; first | done | rfl)
        | (rw [d1S, if_neg c35, if_neg c54, if_pos ⟨c77, c87⟩]; first | done | rfl))

def drS (S : Sto) (pp e nl nc n : Nat) : Sto := d1N (pushS S 3 e) pp nl nc n
set_option maxHeartbeats 4000000 in
set_option maxRecDepth 100000 in
theorem c_X10_drift (l : Launch) (C : JC) (hC : JInj C) (S : Sto) (pp : Nat) (hpl : (S 0 8).toNatClampNeg = pp) (h0 : jsh pp = (0, 6)) (h1 : jsh (pp + 1) = (1, 4)) (h2 : jsh (pp + 2) = (1, 6)) (h3 : jsh (pp + 3) = (1, 6)) (h4 : jsh (pp + 4) = (1, 5)) (nl : Nat) (hnl : S pp 8 = nI nl) (hll : nl ≤ 4) (nc : Nat) (hnc : S pp 9 = nI nc) (hle : nc ≤ 6) (e : Nat) (he : S 41 1 = nI e) (hlt : e < 16) (n : Int32) : Con l C yX10_drift cX10_drift 3 (some .int) 7 [.ref (C.2.1 0), .int n] S (some (.int (if outP n (nI 1) (nI 60) then -1000000002 else if plCells S pp = 0 then -1000000003 else if ¬ S 3 4 ≤ nI 9000 then -1000000004 else bcF (marksF (drS S pp e nl nc n.toNatClampNeg 4) 25)))) (if outP n (nI 1) (nI 60) then S else if plCells S pp = 0 then S else if ¬ S 3 4 ≤ nI 9000 then S else drS S pp e nl nc n.toNatClampNeg) := by
  have hf0 : 90 < pp := pp_far3 h0
  have hf1 : pp ≠ 94 := ne_sh h0 (show jsh 94 = (0, 2) from rfl) (by decide)
  refine con_of RX10 1 [some (.ref (C.2.1 0)), some (.int n), none] (by decide) rfl hC (Nat.le_of_ble_eq_true rfl) rfl (Nat.le_of_ble_eq_true rfl) (fun E hE hR => ?_)
  refine j_iload1 hE dX10_drift_0 ?_
  refine j_iconst hE (nI 1) dX10_drift_1 kiconst_1 ?_
  refine j_bipush hE (nI 60) dX10_drift_2 kbipush_60 ?_
  refine j_S3i hE mX10_75 (c_X10_outside l C hC _ _ _ _) dX10_drift_4 (by decide) (Nat.le_of_ble_eq_true rfl) ?_
  first | refine j_ifeqP hE 13 dX10_drift_7 (by decide) (fun c7 => ?_) (fun c7 => ?_) | refine j_ifeq hE 13 dX10_drift_7 (by decide) (fun c7 => ?_) (fun c7 => ?_)
  · skip
    refine j_aload0 hE dX10_drift_13 ?_
    refine j_V0i hE mX10_219 (c_X10_noWall l C hC _ pp hpl h0 h1 h2 h3 h4) dX10_drift_14 (by first | assumption | rfl) (by decide) (Nat.le_of_ble_eq_true rfl) ?_
    first | refine j_ifeqP hE 23 dX10_drift_17 (by decide) (fun c17 => ?_) (fun c17 => ?_) | refine j_ifeq hE 23 dX10_drift_17 (by decide) (fun c17 => ?_) (fun c17 => ?_)
    · skip
      refine j_aload0 hE dX10_drift_23 ?_
      refine j_getr hE fX10_19 dX10_drift_24 (j := 3) (by first | assumption | rfl) (rfl) ?_
      refine j_geti hE fX10_129 dX10_drift_27 (by first | assumption | rfl) ?_
      refine j_sipush hE (nI 9000) dX10_drift_30 ksipush_9000 ?_
      refine j_icmple hE 39 dX10_drift_33 (by decide) (fun c33 => ?_) (fun c33 => ?_)
      · skip
        obtain ⟨k, hk1, hk2, rfl⟩ := out_n (by decide) c7 (by decide)
        refine j_aload0 hE dX10_drift_39 ?_
        refine j_getr hE fX10_40 dX10_drift_40 (j := 41) (by first | assumption | rfl) (rfl) ?_
        refine j_aload0 hE dX10_drift_43 ?_
        refine j_getr hE fX10_19 dX10_drift_44 (j := 3) (by first | assumption | rfl) (rfl) ?_
        refine j_V1v hE mX10_225 (c_X6_push l C hC _ 3 rfl rfl rfl e he hlt) dX10_drift_47 (by first | assumption | rfl) (by decide) (Nat.le_of_ble_eq_true rfl) ?_
        refine j_iconst hE (nI 0) dX10_drift_50 kiconst_0 ?_
        refine j_istore2 hE dX10_drift_51 rfl ?_
        have L52 : ∀ (fu : Nat) (i : Nat), k - i < fu → (i ≤ k) → J C E (d1N (pushS S 3 e) pp nl nc i) 52 [some (.ref (C.2.1 0)), some (.int (nI k)), some (.int (nI i))] [] := by
          intro fu
          induction fu with
          | zero => intro i hm; omega
          | succ fu ih =>
            intro i hm hi
            refine j_iload2 hE dX10_drift_52 ?_
            refine j_iload1 hE dX10_drift_53 ?_
            refine j_icmpge hE 67 dX10_drift_54 (by decide) (fun c54 => ?_) (fun c54 => ?_)
            · skip
              have c54 := (nI_leI (by omega) (by omega)).mp c54
              have hii : i = k := by omega
              subst hii
              refine j_aload0 hE dX10_drift_67 ?_
              refine j_getr hE fX10_19 dX10_drift_68 (j := 3) (by first | assumption | rfl) (rfl) ?_
              refine j_V0i hE mX10_233 (c_X1_markCount l C hC _ 3 rfl rfl rfl) dX10_drift_71 (by first | assumption | rfl) (by decide) (Nat.le_of_ble_eq_true rfl) ?_
              exact j_iret hE hR dX10_drift_74 (by first
                  | (rw [if_neg c7, if_neg c17, if_neg (fun z => z c33), nI_clamp (by omega)]; first | done | rfl)) (by first
                  | (rw [if_neg c7, if_neg c17, if_neg (fun z => z c33), nI_clamp (by omega)]; first | done | rfl))
            · skip
              have c54 : i < k := Nat.lt_of_not_le (fun q => c54 (nI_le q (by omega)))
              refine j_aload0 hE dX10_drift_57 ?_
              refine j_V0v hE mX10_243 (c_X10_driftOneDay l C hC _ pp (by rw [d1N_o (by omega), push_o hlt (by omega)]; exact hpl) h0 h1 h2 h3 h4 nl (by rw [d1N_o (by omega), push_o hlt (by omega)]; exact hnl) hll nc (by rw [d1N_o (by omega), push_o hlt (by omega)]; exact hnc) hle) dX10_drift_58 (by first | assumption | rfl) (by decide) (Nat.le_of_ble_eq_true rfl) ?_
              refine j_iinc2 hE (nI (i + 1)) dX10_drift_61 (nI_inc _) rfl ?_
              refine j_goto hE 52 dX10_drift_64 (by decide) ?_
              exact ih (i + 1) (by omega) (by omega)
        exact L52 (k + 1) 0 (by omega) (by omega)
      · skip
        refine j_ldc hE dX10_drift_36 kX10_224 ?_
        exact j_iret hE hR dX10_drift_38 (by first
            | (rw [if_neg c7, if_neg c17, if_pos c33]; first | done | rfl)) (by first
            | (rw [if_neg c7, if_neg c17, if_pos c33]; first | done | rfl))
    · skip
      refine j_ldc hE dX10_drift_20 kX10_223 ?_
      exact j_iret hE hR dX10_drift_22 (by first
          | (rw [if_neg c7, if_pos c17]; first | done | rfl)) (by first
          | (rw [if_neg c7, if_pos c17]; first | done | rfl))
  · skip
    refine j_ldc hE dX10_drift_10 kX10_79 ?_
    exact j_iret hE hR dX10_drift_12 (by first
        | (rw [if_pos c7]; first | done | rfl)) (by first
        | (rw [if_pos c7]; first | done | rfl))

set_option maxHeartbeats 4000000 in
set_option maxRecDepth 100000 in
theorem c_X10_undo (l : Launch) (C : JC) (hC : JInj C) (S : Sto) (e : Nat) (he : S 41 1 = nI e) (hlt : e < 16)  : Con l C yX10_undo cX10_undo 1 (some .int) 5 [.ref (C.2.1 0)] S (some (.int (if 0 < S 41 2 then popS S 3 e 41 2 else -1000000003))) (if 0 < S 41 2 then popS S 3 e else S) := by
  refine con_of RX10 0 [some (.ref (C.2.1 0))] (by decide) rfl hC (Nat.le_of_ble_eq_true rfl) rfl (Nat.le_of_ble_eq_true rfl) (fun E hE hR => ?_)
  refine j_aload0 hE dX10_undo_0 ?_
  refine j_getr hE fX10_40 dX10_undo_1 (j := 41) (by first | assumption | rfl) (rfl) ?_
  refine j_aload0 hE dX10_undo_4 ?_
  refine j_getr hE fX10_19 dX10_undo_5 (j := 3) (by first | assumption | rfl) (rfl) ?_
  refine j_V1i hE mX10_246 (c_X6_pop l C hC _ 3 rfl rfl rfl e he hlt) dX10_undo_8 (by first | assumption | rfl) (by decide) (Nat.le_of_ble_eq_true rfl) ?_
  first | refine j_ifeqP hE 24 dX10_undo_11 (by decide) (fun c11 => ?_) (fun c11 => ?_) | refine j_ifeq hE 24 dX10_undo_11 (by decide) (fun c11 => ?_) (fun c11 => ?_)
  · skip
    refine j_ldc hE dX10_undo_24 kX10_223 ?_
    exact j_iret hE hR dX10_undo_26 (by first
        | (rw [if_pos c11]; first | done | rfl)
        | (rw [if_neg c11]; first | done | rfl)
        | (rw [if_pos c11, if_pos c11]; first | done | rfl)) (rfl)
  · skip
    refine j_aload0 hE dX10_undo_14 ?_
    refine j_getr hE fX10_40 dX10_undo_15 (j := 41) (by first | assumption | rfl) (rfl) ?_
    refine j_geti hE fX10_172 dX10_undo_18 (by first | assumption | rfl) ?_
    refine j_goto hE 26 dX10_undo_21 (by decide) ?_
    exact j_iret hE hR dX10_undo_26 (by first
        | (rw [if_pos c11]; first | done | rfl)
        | (rw [if_neg c11]; first | done | rfl)
        | (rw [if_pos c11, if_pos c11]; first | done | rfl)) (rfl)

