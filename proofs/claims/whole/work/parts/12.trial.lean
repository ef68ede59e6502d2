theorem cop_o {S : Sto} {dd ee i : Nat} (h0 : i ≠ dd) (h1 : i ≠ dd + 1) (h2 : i ≠ dd + 2) : copS S dd ee i = S i := by
  unfold copS
  rw [up2_ne _ _ _ h0, up2_ne _ _ _ h0, up2_ne _ _ _ h0, up2_ne _ _ _ h0, up2_ne _ _ _ h0, upA_ne _ _ h2, upA_ne _ _ h1]
theorem shr_o {S : Sto} {dd pp i : Nat} (h0 : i ≠ dd) (h1 : i ≠ dd + 1) : shrS S dd pp i = S i := by
  unfold shrS
  rw [up2_ne _ _ _ h0, upA_ne _ _ h1]
def fnd (P : Nat → Bool) : Nat → Nat → Nat
  | 0, k => k
  | n + 1, k => if P k = true then k else fnd P n (k + 1)
theorem fnd_le (P : Nat → Bool) : ∀ n k, fnd P n k ≤ k + n
  | 0, k => Nat.le_refl _
  | n + 1, k => by
    unfold fnd
    split
    · omega
    · have := fnd_le P n (k + 1)
      omega
/-- what the trial's own wall is behind n days of rain r -/
def mbS (S : Sto) (pp ee nl nc : Nat) (r : Int32) (n : Nat) : Sto := daysS (copS S 13 ee) pp 13 10 nl nc r n
theorem mb_o {S : Sto} {pp ee nl nc : Nat} {r : Int32} {n i : Nat} (h : i < 11 ∨ 15 < i) : mbS S pp ee nl nc r n i = S i := by
  unfold mbS
  rw [days_o (by omega) (by omega) (by omega) (by omega), cop_o (by omega) (by omega) (by omega)]
theorem pp_far {pp : Nat} (h : jsh pp = (0, 6)) : 15 < pp := by
  rcases Nat.lt_or_ge 15 pp with q | q
  · exact q
  · exfalso
    have : ∀ k, k < 16 → jsh k ≠ (0, 6) := by decide
    exact this pp (by omega) h
set_option maxHeartbeats 4000000 in
set_option maxRecDepth 100000 in
theorem c_X9_marksBehind (l : Launch) (C : JC) (hC : JInj C) (S : Sto) (pp : Nat) (h0 : jsh pp = (0, 6)) (h1 : jsh (pp + 1) = (1, 4)) (h2 : jsh (pp + 2) = (1, 6)) (h3 : jsh (pp + 3) = (1, 6)) (h4 : jsh (pp + 4) = (1, 5)) (ee : Nat) (e0 : jsh ee = (0, 1)) (e1 : jsh (ee + 1) = (1, 25)) (e2 : jsh (ee + 2) = (1, 4)) (nl : Nat) (hnl : S pp 8 = nI nl) (hll : nl ≤ 4) (nc : Nat) (hnc : S pp 9 = nI nc) (hle : nc ≤ 6) (n : Nat) (hn : n < 2 ^ 31) (r : Int32) : Con l C yX9_marksBehind cX9_marksBehind 5 (some .int) 6 [.ref (C.2.1 9), .ref (C.2.1 pp), .ref (C.2.1 ee), .int (nI n), .int r] S (some (.int (marksF (mbS S pp ee nl nc r n 14) 25))) (mbS S pp ee nl nc r n) := by
  have hf : 15 < pp := pp_far h0
  refine con_of RX9 0 [some (.ref (C.2.1 9)), some (.ref (C.2.1 pp)), some (.ref (C.2.1 ee)), some (.int (nI n)), some (.int r)] (by decide) rfl hC (Nat.le_of_ble_eq_true rfl) rfl (Nat.le_of_ble_eq_true rfl) (fun E hE hR => ?_)
  refine j_aload0 hE dX9_marksBehind_0 ?_
  refine j_getr hE fX9_21 dX9_marksBehind_1 (j := 13) (by first | assumption | rfl) (rfl) ?_
  refine j_aload2 hE dX9_marksBehind_4 ?_
  refine j_V1v hE mX9_29 (c_X1_copyFrom l C hC _ 13 rfl rfl rfl ee e0 e1 e2) dX9_marksBehind_5 (by first | assumption | rfl) (by decide) (Nat.le_of_ble_eq_true rfl) ?_
  refine j_aload0 hE dX9_marksBehind_8 ?_
  refine j_getr hE fX9_12 dX9_marksBehind_9 (j := 10) (by first | assumption | rfl) (rfl) ?_
  refine j_aload1 hE dX9_marksBehind_12 ?_
  refine j_aload0 hE dX9_marksBehind_13 ?_
  refine j_getr hE fX9_21 dX9_marksBehind_14 (j := 13) (by first | assumption | rfl) (rfl) ?_
  refine j_iload3 hE dX9_marksBehind_17 ?_
  refine j_iload4 hE dX9_marksBehind_18 ?_
  refine j_V4v hE mX9_33 (c_X3_rainDays l C hC _ pp h0 h1 h2 h3 h4 13 rfl rfl rfl 10 rfl rfl rfl nl (by rw [cop_o (by omega) (by omega) (by omega)]; exact hnl) hll nc (by rw [cop_o (by omega) (by omega) (by omega)]; exact hnc) hle n hn r) dX9_marksBehind_20 (by first | assumption | rfl) (by decide) (Nat.le_of_ble_eq_true rfl) ?_
  refine j_aload0 hE dX9_marksBehind_23 ?_
  refine j_getr hE fX9_21 dX9_marksBehind_24 (j := 13) (by first | assumption | rfl) (rfl) ?_
  refine j_V0i hE mX9_37 (c_X1_marks l C hC _ 13 rfl rfl rfl) dX9_marksBehind_27 (by first | assumption | rfl) (by decide) (Nat.le_of_ble_eq_true rfl) ?_
  exact j_iret hE hR dX9_marksBehind_30 (rfl) (rfl)

def dtmP (S : Sto) (pp ee nl nc : Nat) (m r : Int32) : Nat → Bool := fun k => !decide (bcF (marksF (mbS S pp ee nl nc r k 14) 25) < m)
set_option maxHeartbeats 4000000 in
set_option maxRecDepth 100000 in
theorem c_X9_daysTillMarks (l : Launch) (C : JC) (hC : JInj C) (S : Sto) (pp : Nat) (h0 : jsh pp = (0, 6)) (h1 : jsh (pp + 1) = (1, 4)) (h2 : jsh (pp + 2) = (1, 6)) (h3 : jsh (pp + 3) = (1, 6)) (h4 : jsh (pp + 4) = (1, 5)) (ee : Nat) (e0 : jsh ee = (0, 1)) (e1 : jsh (ee + 1) = (1, 25)) (e2 : jsh (ee + 2) = (1, 4)) (nl : Nat) (hnl : S pp 8 = nI nl) (hll : nl ≤ 4) (nc : Nat) (hnc : S pp 9 = nI nc) (hle : nc ≤ 6) (m r : Int32) : Con l C yX9_daysTillMarks cX9_daysTillMarks 6 (some .int) 6 [.ref (C.2.1 9), .ref (C.2.1 pp), .ref (C.2.1 ee), .int m, .int r] S (some (.int (if fnd (dtmP S pp ee nl nc m r) 61 0 = 61 then -1 else nI (fnd (dtmP S pp ee nl nc m r) 61 0)))) (mbS S pp ee nl nc r (fnd (dtmP S pp ee nl nc m r) 61 0)) := by
  have hf : 15 < pp := pp_far h0
  refine con_of RX9 1 [some (.ref (C.2.1 9)), some (.ref (C.2.1 pp)), some (.ref (C.2.1 ee)), some (.int m), some (.int r), none] (by decide) rfl hC (Nat.le_of_ble_eq_true rfl) rfl (Nat.le_of_ble_eq_true rfl) (fun E hE hR => ?_)
  refine j_aload0 hE dX9_daysTillMarks_0 ?_
  refine j_getr hE fX9_21 dX9_daysTillMarks_1 (j := 13) (by first | assumption | rfl) (rfl) ?_
  refine j_aload2 hE dX9_daysTillMarks_4 ?_
  refine j_V1v hE mX9_29 (c_X1_copyFrom l C hC _ 13 rfl rfl rfl ee e0 e1 e2) dX9_daysTillMarks_5 (by first | assumption | rfl) (by decide) (Nat.le_of_ble_eq_true rfl) ?_
  refine j_iconst hE (nI 0) dX9_daysTillMarks_8 kiconst_0 ?_
  refine j_istore5 hE dX9_daysTillMarks_9 rfl ?_
  have L11 : ∀ (fu : Nat) (i : Nat), 61 - i < fu → (i ≤ 61) → (fnd (dtmP S pp ee nl nc m r) (61 - i) i = fnd (dtmP S pp ee nl nc m r) 61 0) → J C E (mbS S pp ee nl nc r i) 11 [some (.ref (C.2.1 9)), some (.ref (C.2.1 pp)), some (.ref (C.2.1 ee)), some (.int m), some (.int r), some (.int (nI i))] [] := by
    intro fu
    induction fu with
    | zero => intro i hm; omega
    | succ fu ih =>
      intro i hm hi hq
      refine j_iload5 hE dX9_daysTillMarks_11 ?_
      refine j_bipush hE (nI 60) dX9_daysTillMarks_13 kbipush_60 ?_
      refine j_icmpgt hE 52 dX9_daysTillMarks_15 (by decide) (fun c15 => ?_) (fun c15 => ?_)
      · skip
        have c15 : 60 < i := (nI_ltI (by omega) (by omega)).mp c15
        have hii : i = 61 := by omega
        subst hii
        rw [show 61 - 61 = 0 from rfl, fnd] at hq
        refine j_iconst hE (-1) dX9_daysTillMarks_52 kiconst_m1 ?_
        exact j_iret hE hR dX9_daysTillMarks_53 (by rw [← hq, if_pos rfl]) (by rw [← hq])
      · skip
        have c15 : i ≤ 60 := Nat.le_of_not_lt (fun q => c15 (nI_lt q (by omega)))
        refine j_aload0 hE dX9_daysTillMarks_18 ?_
        refine j_getr hE fX9_21 dX9_daysTillMarks_19 (j := 13) (by first | assumption | rfl) (rfl) ?_
        refine j_V0i hE mX9_41 (c_X1_markCount l C hC _ 13 rfl rfl rfl) dX9_daysTillMarks_22 (by first | assumption | rfl) (by decide) (Nat.le_of_ble_eq_true rfl) ?_
        refine j_iload3 hE dX9_daysTillMarks_25 ?_
        refine j_icmplt hE 32 dX9_daysTillMarks_26 (by decide) (fun c26 => ?_) (fun c26 => ?_)
        · skip
          refine j_aload0 hE dX9_daysTillMarks_32 ?_
          refine j_getr hE fX9_12 dX9_daysTillMarks_33 (j := 10) (by first | assumption | rfl) (rfl) ?_
          refine j_aload1 hE dX9_daysTillMarks_36 ?_
          refine j_aload0 hE dX9_daysTillMarks_37 ?_
          refine j_getr hE fX9_21 dX9_daysTillMarks_38 (j := 13) (by first | assumption | rfl) (rfl) ?_
          refine j_iload4 hE dX9_daysTillMarks_41 ?_
          refine j_V3v hE mX9_44 (c_X3_rainDay l C hC _ pp h0 h1 h2 h3 h4 13 rfl rfl rfl 10 rfl rfl rfl nl (by rw [mb_o (Or.inr hf)]; exact hnl) hll nc (by rw [mb_o (Or.inr hf)]; exact hnc) hle r) dX9_daysTillMarks_43 (by first | assumption | rfl) (by decide) (Nat.le_of_ble_eq_true rfl) ?_
          refine j_iinc5 hE (nI (i + 1)) dX9_daysTillMarks_46 (nI_inc _) rfl ?_
          refine j_goto hE 11 dX9_daysTillMarks_49 (by decide) ?_
          exact ih (i + 1) (by omega) (by omega) (by rw [← hq, show 61 - i = 61 - (i + 1) + 1 by omega, fnd, if_neg (by simp [dtmP, c26])])
        · skip
          have hq2 : i = fnd (dtmP S pp ee nl nc m r) 61 0 := by rw [← hq, show 61 - i = 61 - (i + 1) + 1 by omega, fnd, if_pos (by simp [dtmP, c26])]
          refine j_iload5 hE dX9_daysTillMarks_29 ?_
          exact j_iret hE hR dX9_daysTillMarks_31 (by rw [← hq2, if_neg (by omega)]) (by rw [← hq2])
  exact L11 62 0 (by omega) (by omega) rfl

def dtdP (S : Sto) (pp ee nl nc : Nat) : Nat → Bool := fun k => decide (wetF (mbS S pp ee nl nc (nI 0) k 14) 25 = 0)
set_option maxHeartbeats 4000000 in
set_option maxRecDepth 100000 in
theorem c_X9_daysTillDry (l : Launch) (C : JC) (hC : JInj C) (S : Sto) (pp : Nat) (h0 : jsh pp = (0, 6)) (h1 : jsh (pp + 1) = (1, 4)) (h2 : jsh (pp + 2) = (1, 6)) (h3 : jsh (pp + 3) = (1, 6)) (h4 : jsh (pp + 4) = (1, 5)) (ee : Nat) (e0 : jsh ee = (0, 1)) (e1 : jsh (ee + 1) = (1, 25)) (e2 : jsh (ee + 2) = (1, 4)) (nl : Nat) (hnl : S pp 8 = nI nl) (hll : nl ≤ 4) (nc : Nat) (hnc : S pp 9 = nI nc) (hle : nc ≤ 6)  : Con l C yX9_daysTillDry cX9_daysTillDry 4 (some .int) 6 [.ref (C.2.1 9), .ref (C.2.1 pp), .ref (C.2.1 ee)] S (some (.int (if fnd (dtdP S pp ee nl nc) 61 0 = 61 then -1 else nI (fnd (dtdP S pp ee nl nc) 61 0)))) (mbS S pp ee nl nc (nI 0) (fnd (dtdP S pp ee nl nc) 61 0)) := by
  have hf : 15 < pp := pp_far h0
  refine con_of RX9 1 [some (.ref (C.2.1 9)), some (.ref (C.2.1 pp)), some (.ref (C.2.1 ee)), none] (by decide) rfl hC (Nat.le_of_ble_eq_true rfl) rfl (Nat.le_of_ble_eq_true rfl) (fun E hE hR => ?_)
  refine j_aload0 hE dX9_daysTillDry_0 ?_
  refine j_getr hE fX9_21 dX9_daysTillDry_1 (j := 13) (by first | assumption | rfl) (rfl) ?_
  refine j_aload2 hE dX9_daysTillDry_4 ?_
  refine j_V1v hE mX9_29 (c_X1_copyFrom l C hC _ 13 rfl rfl rfl ee e0 e1 e2) dX9_daysTillDry_5 (by first | assumption | rfl) (by decide) (Nat.le_of_ble_eq_true rfl) ?_
  refine j_iconst hE (nI 0) dX9_daysTillDry_8 kiconst_0 ?_
  refine j_istore3 hE dX9_daysTillDry_9 rfl ?_
  have L10 : ∀ (fu : Nat) (i : Nat), 61 - i < fu → (i ≤ 61) → (fnd (dtdP S pp ee nl nc) (61 - i) i = fnd (dtdP S pp ee nl nc) 61 0) → J C E (mbS S pp ee nl nc (nI 0) i) 10 [some (.ref (C.2.1 9)), some (.ref (C.2.1 pp)), some (.ref (C.2.1 ee)), some (.int (nI i))] [] := by
    intro fu
    induction fu with
    | zero => intro i hm; omega
    | succ fu ih =>
      intro i hm hi hq
      refine j_iload3 hE dX9_daysTillDry_10 ?_
      refine j_bipush hE (nI 60) dX9_daysTillDry_11 kbipush_60 ?_
      refine j_icmpgt hE 47 dX9_daysTillDry_13 (by decide) (fun c13 => ?_) (fun c13 => ?_)
      · skip
        have c13 : 60 < i := (nI_ltI (by omega) (by omega)).mp c13
        have hii : i = 61 := by omega
        subst hii
        rw [show 61 - 61 = 0 from rfl, fnd] at hq
        refine j_iconst hE (-1) dX9_daysTillDry_47 kiconst_m1 ?_
        exact j_iret hE hR dX9_daysTillDry_48 (by rw [← hq, if_pos rfl]) (by rw [← hq])
      · skip
        have c13 : i ≤ 60 := Nat.le_of_not_lt (fun q => c13 (nI_lt q (by omega)))
        refine j_aload0 hE dX9_daysTillDry_16 ?_
        refine j_getr hE fX9_21 dX9_daysTillDry_17 (j := 13) (by first | assumption | rfl) (rfl) ?_
        refine j_V0i hE mX9_48 (c_X1_allWet l C hC _ 13 rfl rfl rfl) dX9_daysTillDry_20 (by first | assumption | rfl) (by decide) (Nat.le_of_ble_eq_true rfl) ?_
        refine j_ifne hE 28 dX9_daysTillDry_23 (by decide) (fun c23 => ?_) (fun c23 => ?_)
        · skip
          refine j_aload0 hE dX9_daysTillDry_28 ?_
          refine j_getr hE fX9_12 dX9_daysTillDry_29 (j := 10) (by first | assumption | rfl) (rfl) ?_
          refine j_aload1 hE dX9_daysTillDry_32 ?_
          refine j_aload0 hE dX9_daysTillDry_33 ?_
          refine j_getr hE fX9_21 dX9_daysTillDry_34 (j := 13) (by first | assumption | rfl) (rfl) ?_
          refine j_iconst hE (nI 0) dX9_daysTillDry_37 kiconst_0 ?_
          refine j_V3v hE mX9_44 (c_X3_rainDay l C hC _ pp h0 h1 h2 h3 h4 13 rfl rfl rfl 10 rfl rfl rfl nl (by rw [mb_o (Or.inr hf)]; exact hnl) hll nc (by rw [mb_o (Or.inr hf)]; exact hnc) hle (nI 0)) dX9_daysTillDry_38 (by first | assumption | rfl) (by decide) (Nat.le_of_ble_eq_true rfl) ?_
          refine j_iinc3 hE (nI (i + 1)) dX9_daysTillDry_41 (nI_inc _) rfl ?_
          refine j_goto hE 10 dX9_daysTillDry_44 (by decide) ?_
          exact ih (i + 1) (by omega) (by omega) (by rw [← hq, show 61 - i = 61 - (i + 1) + 1 by omega, fnd, if_neg (by simp [dtdP, c23])])
        · skip
          have hq2 : i = fnd (dtdP S pp ee nl nc) 61 0 := by rw [← hq, show 61 - i = 61 - (i + 1) + 1 by omega, fnd, if_pos (by simp [dtdP, c23])]
          refine j_iload3 hE dX9_daysTillDry_26 ?_
          exact j_iret hE hR dX9_daysTillDry_27 (by rw [← hq2, if_neg (by omega)]) (by rw [← hq2])
  exact L10 62 0 (by omega) (by omega) rfl

def lbT (S : Sto) (pp ee nl nc : Nat) (lk fc r : Int32) (n x : Nat) : Sto := daysS (putS 4 (copS S 13 ee) 15 lk (nI x)) pp 13 10 nl nc r n
def lbS (S : Sto) (pp ee nl nc : Nat) (lk fc r : Int32) (n : Nat) : Nat → Sto
  | 0 => up2 (up2 S 9 6 (-1)) 9 7 (-1)
  | x + 1 => let D := lbT (lbS S pp ee nl nc lk fc r n x) pp ee nl nc lk fc r n x
    if likF D pp (marksF (D 14) 25) fc ≤ D 9 7 then D else up2 (up2 D 9 7 (likF D pp (marksF (D 14) 25) fc)) 9 6 (nI x)
theorem put_o {n : Nat} {S : Sto} {a i : Nat} {x v : Int32} (h : i ≠ a) : putS n S a x v i = S i := by rw [putS_eq, upA_ne _ _ h]
theorem lbT_o {S : Sto} {pp ee nl nc : Nat} {lk fc r : Int32} {n x i : Nat} (h : i < 11 ∨ 15 < i) : lbT S pp ee nl nc lk fc r n x i = S i := by
  unfold lbT
  rw [days_o (by omega) (by omega) (by omega) (by omega), put_o (by omega), cop_o (by omega) (by omega) (by omega)]
theorem lb_o {S : Sto} {pp ee nl nc : Nat} {lk fc r : Int32} {n i : Nat} (h : i < 9 ∨ i = 10 ∨ 15 < i) : ∀ x, lbS S pp ee nl nc lk fc r n x i = S i
  | 0 => by rw [lbS, up2_ne _ _ _ (by omega), up2_ne _ _ _ (by omega)]
  | x + 1 => by
    rw [lbS]
    split
    · rw [lbT_o (by omega), lb_o h x]
    · rw [up2_ne _ _ _ (by omega), up2_ne _ _ _ (by omega), lbT_o (by omega), lb_o h x]
set_option maxHeartbeats 4000000 in
set_option maxRecDepth 100000 in
theorem c_X9_leadBest (l : Launch) (C : JC) (hC : JInj C) (S : Sto) (pp : Nat) (h0 : jsh pp = (0, 6)) (h1 : jsh (pp + 1) = (1, 4)) (h2 : jsh (pp + 2) = (1, 6)) (h3 : jsh (pp + 3) = (1, 6)) (h4 : jsh (pp + 4) = (1, 5)) (ee : Nat) (e0 : jsh ee = (0, 1)) (e1 : jsh (ee + 1) = (1, 25)) (e2 : jsh (ee + 2) = (1, 4)) (nl : Nat) (hnl : S pp 8 = nI nl) (hll : nl ≤ 4) (nc : Nat) (hnc : S pp 9 = nI nc) (hle : nc ≤ 6) (nn : Nat) (hnn : plCells S pp = nI nn) (hnl25 : nn ≤ 25) (lk fc r : Int32) (n : Nat) (hn : n < 2 ^ 31) : Con l C yX9_leadBest cX9_leadBest 9 none 6 [.ref (C.2.1 9), .ref (C.2.1 pp), .ref (C.2.1 ee), .int lk, .int fc, .int (nI n), .int r] S none (lbS S pp ee nl nc lk fc r n nn) := by
  have hf : 15 < pp := pp_far h0
  refine con_of RX9 2 [some (.ref (C.2.1 9)), some (.ref (C.2.1 pp)), some (.ref (C.2.1 ee)), some (.int lk), some (.int fc), some (.int (nI n)), some (.int r), none, none] (by decide) rfl hC (Nat.le_of_ble_eq_true rfl) rfl (Nat.le_of_ble_eq_true rfl) (fun E hE hR => ?_)
  refine j_aload0 hE dX9_leadBest_0 ?_
  refine j_iconst hE (-1) dX9_leadBest_1 kiconst_m1 ?_
  refine j_puti hE pX9_51 dX9_leadBest_2 (by first | assumption | rfl) rfl rfl ?_
  refine j_aload0 hE dX9_leadBest_5 ?_
  refine j_iconst hE (-1) dX9_leadBest_6 kiconst_m1 ?_
  refine j_puti hE pX9_55 dX9_leadBest_7 (by first | assumption | rfl) rfl rfl ?_
  refine j_iconst hE (nI 0) dX9_leadBest_10 kiconst_0 ?_
  refine j_istore7 hE dX9_leadBest_11 rfl ?_
  have L13 : ∀ (fu : Nat) (i : Nat) (x8 : Option Value), nn - i < fu → (i ≤ nn) → J C E (lbS S pp ee nl nc lk fc r n i) 13 [some (.ref (C.2.1 9)), some (.ref (C.2.1 pp)), some (.ref (C.2.1 ee)), some (.int lk), some (.int fc), some (.int (nI n)), some (.int r), some (.int (nI i)), x8] [] := by
    intro fu
    induction fu with
    | zero => intro i x8 hm; omega
    | succ fu ih =>
      intro i x8 hm hi
      refine j_iload7 hE dX9_leadBest_13 ?_
      refine j_aload1 hE dX9_leadBest_15 ?_
      refine j_V0i hE mX9_58 (c_X7_cells l C hC _ pp h0) dX9_leadBest_16 (by first | assumption | rfl) (by decide) (Nat.le_of_ble_eq_true rfl) ?_
      refine j_icmpge hE 101 dX9_leadBest_19 (by decide) (fun c19 => ?_) (fun c19 => ?_)
      · skip
        rw [plCells_c (lb_o (Or.inr (Or.inr hf)) i)] at c19
        rw [hnn] at c19
        have c19 := (nI_leI (by omega) (by omega)).mp c19
        have hii : i = nn := by omega
        subst hii
        exact j_vret hE hR dX9_leadBest_101 (rfl)
      · skip
        rw [plCells_c (lb_o (Or.inr (Or.inr hf)) i)] at c19
        rw [hnn] at c19
        have c19 : i < nn := Nat.lt_of_not_le (fun q => c19 (nI_le q (by omega)))
        refine j_aload0 hE dX9_leadBest_22 ?_
        refine j_getr hE fX9_21 dX9_leadBest_23 (j := 13) (by first | assumption | rfl) (rfl) ?_
        refine j_aload2 hE dX9_leadBest_26 ?_
        refine j_V1v hE mX9_29 (c_X1_copyFrom l C hC _ 13 rfl rfl rfl ee e0 e1 e2) dX9_leadBest_27 (by first | assumption | rfl) (by decide) (Nat.le_of_ble_eq_true rfl) ?_
        refine j_aload0 hE dX9_leadBest_30 ?_
        refine j_getr hE fX9_21 dX9_leadBest_31 (j := 13) (by first | assumption | rfl) (rfl) ?_
        refine j_getr hE fX9_63 dX9_leadBest_34 (by first | assumption | rfl) (rf_o (by first | assumption | rfl) (by decide)) ?_
        refine j_iload3 hE dX9_leadBest_37 ?_
        refine j_iload7 hE dX9_leadBest_38 ?_
        refine j_SN3v hE mX9_67 (c_X10_put l C hC _ 15 4 rfl (by decide) _ _) dX9_leadBest_40 (by decide) (Nat.le_of_ble_eq_true rfl) ?_
        refine j_aload0 hE dX9_leadBest_43 ?_
        refine j_getr hE fX9_12 dX9_leadBest_44 (j := 10) (by first | assumption | rfl) (rfl) ?_
        refine j_aload1 hE dX9_leadBest_47 ?_
        refine j_aload0 hE dX9_leadBest_48 ?_
        refine j_getr hE fX9_21 dX9_leadBest_49 (j := 13) (by first | assumption | rfl) (rfl) ?_
        refine j_iload5 hE dX9_leadBest_52 ?_
        refine j_iload6 hE dX9_leadBest_54 ?_
        refine j_V4v hE mX9_33 (c_X3_rainDays l C hC _ pp h0 h1 h2 h3 h4 13 rfl rfl rfl 10 rfl rfl rfl nl (by rw [put_o (by omega), cop_o (by omega) (by omega) (by omega), lb_o (Or.inr (Or.inr hf))]; exact hnl) hll nc (by rw [put_o (by omega), cop_o (by omega) (by omega) (by omega), lb_o (Or.inr (Or.inr hf))]; exact hnc) hle n hn r) dX9_leadBest_56 (by first | assumption | rfl) (by decide) (Nat.le_of_ble_eq_true rfl) ?_
        refine j_aload1 hE dX9_leadBest_59 ?_
        refine j_aload0 hE dX9_leadBest_60 ?_
        refine j_getr hE fX9_21 dX9_leadBest_61 (j := 13) (by first | assumption | rfl) (rfl) ?_
        refine j_V0i hE mX9_37 (c_X1_marks l C hC _ 13 rfl rfl rfl) dX9_leadBest_64 (by first | assumption | rfl) (by decide) (Nat.le_of_ble_eq_true rfl) ?_
        refine j_iload4 hE dX9_leadBest_67 ?_
        refine j_S3i hE mX9_71 (c_X5_like l C hC _ pp h0 _ _) dX9_leadBest_69 (by decide) (Nat.le_of_ble_eq_true rfl) ?_
        refine j_istore8 hE dX9_leadBest_72 rfl ?_
        refine j_iload8 hE dX9_leadBest_74 ?_
        refine j_aload0 hE dX9_leadBest_76 ?_
        refine j_geti hE fX9_55 dX9_leadBest_77 (by first | assumption | rfl) ?_
        refine j_icmple hE 95 dX9_leadBest_80 (by decide) (fun c80 => ?_) (fun c80 => ?_)
        · skip
          refine j_iinc7 hE (nI (i + 1)) dX9_leadBest_95 (nI_inc _) rfl ?_
          refine j_goto hE 13 dX9_leadBest_98 (by decide) ?_
          exact j_cast (by rw [lbS]; first | (exact (if_pos c80).symm) | (exact (if_neg c80).symm)) rfl (ih (i + 1) _ (by omega) (by omega))
        · skip
          refine j_aload0 hE dX9_leadBest_83 ?_
          refine j_iload8 hE dX9_leadBest_84 ?_
          refine j_puti hE pX9_55 dX9_leadBest_86 (by first | assumption | rfl) rfl rfl ?_
          refine j_aload0 hE dX9_leadBest_89 ?_
          refine j_iload7 hE dX9_leadBest_90 ?_
          refine j_puti hE pX9_51 dX9_leadBest_92 (by first | assumption | rfl) rfl rfl ?_
          refine j_iinc7 hE (nI (i + 1)) dX9_leadBest_95 (nI_inc _) rfl ?_
          refine j_goto hE 13 dX9_leadBest_98 (by decide) ?_
          exact j_cast (by rw [lbS]; first | (exact (if_pos c80).symm) | (exact (if_neg c80).symm)) rfl (ih (i + 1) _ (by omega) (by omega))
  exact L13 (nn + 1) 0 none (by omega) (by omega)

def rsS (S : Sto) (pp ee nl nc : Nat) : Nat → Sto
  | 0 => S
  | r + 1 => mbS (rsS S pp ee nl nc r) pp ee nl nc (nI r) 1
def rsF (S : Sto) (pp ee nl nc : Nat) (set : Int32) : Nat → Int32
  | 0 => nI 0
  | r + 1 => if marksF (rsS S pp ee nl nc (r + 1) 14) 25 = set then rsF S pp ee nl nc set r ||| (nI 1 <<< (nI r &&& 31)) else rsF S pp ee nl nc set r
theorem rs_o {S : Sto} {pp ee nl nc i : Nat} (h : i < 11 ∨ 15 < i) : ∀ r, rsS S pp ee nl nc r i = S i
  | 0 => rfl
  | r + 1 => by rw [rsS, mb_o h, rs_o h r]
theorem nI_gt10 {i : Nat} (hi : i ≤ 10) (h : nI 9 < nI i) : i = 10 := by
  have := (nI_ltI (by omega) (by omega)).mp h
  omega
theorem nI_ngt10 {i : Nat} (hi : i ≤ 10) (h : ¬ nI 9 < nI i) : i < 10 := Nat.lt_of_not_le (fun q => h (nI_lt (by omega) (by omega)))
set_option maxHeartbeats 4000000 in
set_option maxRecDepth 100000 in
theorem c_X9_rainsThatShow (l : Launch) (C : JC) (hC : JInj C) (S : Sto) (pp : Nat) (h0 : jsh pp = (0, 6)) (h1 : jsh (pp + 1) = (1, 4)) (h2 : jsh (pp + 2) = (1, 6)) (h3 : jsh (pp + 3) = (1, 6)) (h4 : jsh (pp + 4) = (1, 5)) (ee : Nat) (e0 : jsh ee = (0, 1)) (e1 : jsh (ee + 1) = (1, 25)) (e2 : jsh (ee + 2) = (1, 4)) (nl : Nat) (hnl : S pp 8 = nI nl) (hll : nl ≤ 4) (nc : Nat) (hnc : S pp 9 = nI nc) (hle : nc ≤ 6) (set : Int32) : Con l C yX9_rainsThatShow cX9_rainsThatShow 6 (some .int) 7 [.ref (C.2.1 9), .ref (C.2.1 pp), .ref (C.2.1 ee), .int set] S (some (.int (rsF S pp ee nl nc set 10))) (rsS S pp ee nl nc 10) := by
  have hf : 15 < pp := pp_far h0
  refine con_of RX9 2 [some (.ref (C.2.1 9)), some (.ref (C.2.1 pp)), some (.ref (C.2.1 ee)), some (.int set), none, none] (by decide) rfl hC (Nat.le_of_ble_eq_true rfl) rfl (Nat.le_of_ble_eq_true rfl) (fun E hE hR => ?_)
  refine j_iconst hE (nI 0) dX9_rainsThatShow_0 kiconst_0 ?_
  refine j_istore4 hE dX9_rainsThatShow_1 rfl ?_
  refine j_iconst hE (nI 0) dX9_rainsThatShow_3 kiconst_0 ?_
  refine j_istore5 hE dX9_rainsThatShow_4 rfl ?_
  have L6 : ∀ (fu : Nat) (i : Nat), 10 - i < fu → (i ≤ 10) → J C E (rsS S pp ee nl nc i) 6 [some (.ref (C.2.1 9)), some (.ref (C.2.1 pp)), some (.ref (C.2.1 ee)), some (.int set), some (.int (rsF S pp ee nl nc set i)), some (.int (nI i))] [] := by
    intro fu
    induction fu with
    | zero => intro i hm; omega
    | succ fu ih =>
      intro i hm hi
      refine j_iload5 hE dX9_rainsThatShow_6 ?_
      refine j_bipush hE (nI 9) dX9_rainsThatShow_8 kbipush_9 ?_
      refine j_icmpgt hE 41 dX9_rainsThatShow_10 (by decide) (fun c10 => ?_) (fun c10 => ?_)
      · skip
        have hii := nI_gt10 hi c10
        subst hii
        refine j_iload4 hE dX9_rainsThatShow_41 ?_
        exact j_iret hE hR dX9_rainsThatShow_43 (rfl) (rfl)
      · skip
        have c10 := nI_ngt10 hi c10
        refine j_aload0 hE dX9_rainsThatShow_13 ?_
        refine j_aload1 hE dX9_rainsThatShow_14 ?_
        refine j_aload2 hE dX9_rainsThatShow_15 ?_
        refine j_iconst hE (nI 1) dX9_rainsThatShow_16 kiconst_1 ?_
        refine j_iload5 hE dX9_rainsThatShow_17 ?_
        refine j_V4i hE mX9_77 (c_X9_marksBehind l C hC _ pp h0 h1 h2 h3 h4 ee e0 e1 e2 nl (by rw [rs_o (Or.inr hf)]; exact hnl) hll nc (by rw [rs_o (Or.inr hf)]; exact hnc) hle 1 (by decide) (nI i)) dX9_rainsThatShow_19 (by first | assumption | rfl) (by decide) (Nat.le_of_ble_eq_true rfl) ?_
        refine j_iload3 hE dX9_rainsThatShow_22 ?_
        refine j_icmpne hE 35 dX9_rainsThatShow_23 (by decide) (fun c23 => ?_) (fun c23 => ?_)
        · skip
          have c23 : ¬ marksF (rsS S pp ee nl nc (i + 1) 14) 25 = set := c23
          refine j_iinc5 hE (nI (i + 1)) dX9_rainsThatShow_35 (nI_inc _) rfl ?_
          refine j_goto hE 6 dX9_rainsThatShow_38 (by decide) ?_
          exact j_cast rfl (by rw [rsF]; first | (rw [if_pos c23]; done) | (rw [if_neg c23]; done)) (ih (i + 1) (by omega) (by omega))
        · skip
          have c23 : marksF (rsS S pp ee nl nc (i + 1) 14) 25 = set := c23
          refine j_iload4 hE dX9_rainsThatShow_26 ?_
          refine j_iconst hE (nI 1) dX9_rainsThatShow_28 kiconst_1 ?_
          refine j_iload5 hE dX9_rainsThatShow_29 ?_
          refine j_ishl hE dX9_rainsThatShow_31 ?_
          refine j_ior hE dX9_rainsThatShow_32 ?_
          refine j_istore4 hE dX9_rainsThatShow_33 rfl ?_
          refine j_iinc5 hE (nI (i + 1)) dX9_rainsThatShow_35 (nI_inc _) rfl ?_
          refine j_goto hE 6 dX9_rainsThatShow_38 (by decide) ?_
          exact j_cast rfl (by rw [rsF]; first | (rw [if_pos c23]; done) | (rw [if_neg c23]; done)) (ih (i + 1) (by omega) (by omega))
  exact L6 11 0 (by omega) (by omega)

def rlS (S : Sto) (pp ee nl nc nf : Nat) : Nat → Sto
  | 0 => up2 (up2 S 9 6 (-1)) 9 7 (nI 6)
  | r + 1 => let D := mbS (rlS S pp ee nl nc nf r) pp ee nl nc (nI r) 1
    let k := bcF (mbF D pp (marksF (D 14) 25) nf)
    if D 9 7 ≤ k then D else up2 (up2 D 9 7 k) 9 6 (nI r)
theorem rl_o {S : Sto} {pp ee nl nc nf i : Nat} (h : i < 9 ∨ i = 10 ∨ 15 < i) : ∀ r, rlS S pp ee nl nc nf r i = S i
  | 0 => by rw [rlS, up2_ne _ _ _ (by omega), up2_ne _ _ _ (by omega)]
  | r + 1 => by
    rw [rlS]
    split
    · rw [mb_o (by omega), rl_o h r]
    · rw [up2_ne _ _ _ (by omega), up2_ne _ _ _ (by omega), mb_o (by omega), rl_o h r]
set_option maxHeartbeats 4000000 in
set_option maxRecDepth 100000 in
theorem c_X9_rainThatLeavesFewest (l : Launch) (C : JC) (hC : JInj C) (S : Sto) (pp : Nat) (h0 : jsh pp = (0, 6)) (h1 : jsh (pp + 1) = (1, 4)) (h2 : jsh (pp + 2) = (1, 6)) (h3 : jsh (pp + 3) = (1, 6)) (h4 : jsh (pp + 4) = (1, 5)) (ee : Nat) (e0 : jsh ee = (0, 1)) (e1 : jsh (ee + 1) = (1, 25)) (e2 : jsh (ee + 2) = (1, 4)) (nl : Nat) (hnl : S pp 8 = nI nl) (hll : nl ≤ 4) (nc : Nat) (hnc : S pp 9 = nI nc) (hle : nc ≤ 6) (nf : Nat) (hnf : S pp 10 = nI nf) (hfl : nf ≤ 25) : Con l C yX9_rainThatLeavesFewest cX9_rainThatLeavesFewest 5 none 7 [.ref (C.2.1 9), .ref (C.2.1 pp), .ref (C.2.1 ee)] S none (rlS S pp ee nl nc nf 10) := by
  have hf : 15 < pp := pp_far h0
  refine con_of RX9 2 [some (.ref (C.2.1 9)), some (.ref (C.2.1 pp)), some (.ref (C.2.1 ee)), none, none] (by decide) rfl hC (Nat.le_of_ble_eq_true rfl) rfl (Nat.le_of_ble_eq_true rfl) (fun E hE hR => ?_)
  refine j_aload0 hE dX9_rainThatLeavesFewest_0 ?_
  refine j_iconst hE (-1) dX9_rainThatLeavesFewest_1 kiconst_m1 ?_
  refine j_puti hE pX9_51 dX9_rainThatLeavesFewest_2 (by first | assumption | rfl) rfl rfl ?_
  refine j_aload0 hE dX9_rainThatLeavesFewest_5 ?_
  refine j_bipush hE (nI 6) dX9_rainThatLeavesFewest_6 kbipush_6 ?_
  refine j_puti hE pX9_55 dX9_rainThatLeavesFewest_8 (by first | assumption | rfl) rfl rfl ?_
  refine j_iconst hE (nI 0) dX9_rainThatLeavesFewest_11 kiconst_0 ?_
  refine j_istore3 hE dX9_rainThatLeavesFewest_12 rfl ?_
  have L13 : ∀ (fu : Nat) (i : Nat) (x4 : Option Value), 10 - i < fu → (i ≤ 10) → J C E (rlS S pp ee nl nc nf i) 13 [some (.ref (C.2.1 9)), some (.ref (C.2.1 pp)), some (.ref (C.2.1 ee)), some (.int (nI i)), x4] [] := by
    intro fu
    induction fu with
    | zero => intro i x4 hm; omega
    | succ fu ih =>
      intro i x4 hm hi
      refine j_iload3 hE dX9_rainThatLeavesFewest_13 ?_
      refine j_bipush hE (nI 9) dX9_rainThatLeavesFewest_14 kbipush_9 ?_
      refine j_icmpgt hE 62 dX9_rainThatLeavesFewest_16 (by decide) (fun c16 => ?_) (fun c16 => ?_)
      · skip
        have hii := nI_gt10 hi c16
        subst hii
        exact j_vret hE hR dX9_rainThatLeavesFewest_62 (rfl)
      · skip
        have c16 := nI_ngt10 hi c16
        refine j_aload1 hE dX9_rainThatLeavesFewest_19 ?_
        refine j_aload0 hE dX9_rainThatLeavesFewest_20 ?_
        refine j_aload1 hE dX9_rainThatLeavesFewest_21 ?_
        refine j_aload2 hE dX9_rainThatLeavesFewest_22 ?_
        refine j_iconst hE (nI 1) dX9_rainThatLeavesFewest_23 kiconst_1 ?_
        refine j_iload3 hE dX9_rainThatLeavesFewest_24 ?_
        refine j_V4i hE mX9_77 (c_X9_marksBehind l C hC _ pp h0 h1 h2 h3 h4 ee e0 e1 e2 nl (by rw [rl_o (Or.inr (Or.inr hf))]; exact hnl) hll nc (by rw [rl_o (Or.inr (Or.inr hf))]; exact hnc) hle 1 (by decide) (nI i)) dX9_rainThatLeavesFewest_25 (by first | assumption | rfl) (by decide) (Nat.le_of_ble_eq_true rfl) ?_
        refine j_S2i hE mX9_81 (c_X5_mayBe l C hC _ pp h0 h1 h2 h3 h4 _ nf (by rw [mb_o (Or.inr hf), rl_o (Or.inr (Or.inr hf))]; exact hnf) hfl) dX9_rainThatLeavesFewest_28 (by decide) (Nat.le_of_ble_eq_true rfl) ?_
        refine j_S1i hE mX9_85 (c_J6_bitCount_0f7a4 l C hC _ _) dX9_rainThatLeavesFewest_31 (by decide) (Nat.le_of_ble_eq_true rfl) ?_
        refine j_istore4 hE dX9_rainThatLeavesFewest_34 rfl ?_
        refine j_iload4 hE dX9_rainThatLeavesFewest_36 ?_
        refine j_aload0 hE dX9_rainThatLeavesFewest_38 ?_
        refine j_geti hE fX9_55 dX9_rainThatLeavesFewest_39 (by first | assumption | rfl) ?_
        refine j_icmpge hE 56 dX9_rainThatLeavesFewest_42 (by decide) (fun c42 => ?_) (fun c42 => ?_)
        · skip
          refine j_iinc3 hE (nI (i + 1)) dX9_rainThatLeavesFewest_56 (nI_inc _) rfl ?_
          refine j_goto hE 13 dX9_rainThatLeavesFewest_59 (by decide) ?_
          exact j_cast (by rw [rlS]; first | (exact (if_pos c42).symm) | (exact (if_neg c42).symm)) rfl (ih (i + 1) _ (by omega) (by omega))
        · skip
          refine j_aload0 hE dX9_rainThatLeavesFewest_45 ?_
          refine j_iload4 hE dX9_rainThatLeavesFewest_46 ?_
          refine j_puti hE pX9_55 dX9_rainThatLeavesFewest_48 (by first | assumption | rfl) rfl rfl ?_
          refine j_aload0 hE dX9_rainThatLeavesFewest_51 ?_
          refine j_iload3 hE dX9_rainThatLeavesFewest_52 ?_
          refine j_puti hE pX9_51 dX9_rainThatLeavesFewest_53 (by first | assumption | rfl) rfl rfl ?_
          refine j_iinc3 hE (nI (i + 1)) dX9_rainThatLeavesFewest_56 (nI_inc _) rfl ?_
          refine j_goto hE 13 dX9_rainThatLeavesFewest_59 (by decide) ?_
          exact j_cast (by rw [rlS]; first | (exact (if_pos c42).symm) | (exact (if_neg c42).symm)) rfl (ih (i + 1) _ (by omega) (by omega))
  exact L13 11 0 none (by omega) (by omega)

