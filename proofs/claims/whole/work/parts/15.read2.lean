theorem RS_rsz {S : Sto} {n : Nat} {q : Qr} {pp : Nat} {h w : Int32} {k : Nat} (hp : pp ≠ 1) : rszS (RS S n q) pp h w k = RS (rszS S pp h w k) n q := by
  unfold rszS
  rw [RS_up hp, RS_up hp, RS_up hp, RS_up hp]
theorem RS_put {S : Sto} {n : Nat} {q : Qr} {m a : Nat} {i v : Int32} (hp : a ≠ 1) : putS m (RS S n q) a i v = RS (putS m S a i v) n q := by
  rw [putS_eq, putS_eq, RS_o hp, RS_upA hp]
theorem RS_addL {S : Sto} {n : Nat} {q : Qr} {pp : Nat} {x : Int32} (hp : pp ≠ 1) (h1 : pp + 1 ≠ 1) : addLS (RS S n q) pp x = RS (addLS S pp x) n q := by
  unfold addLS
  rw [RS_o hp, RS_put h1, RS_up hp, RS_o hp]
theorem RS_addC {S : Sto} {n : Nat} {q : Qr} {pp : Nat} {x y : Int32} (hp : pp ≠ 1) (h1 : pp + 2 ≠ 1) (h2 : pp + 3 ≠ 1) : addCS (RS S n q) pp x y = RS (addCS S pp x y) n q := by
  unfold addCS
  dsimp only
  rw [RS_o hp, RS_put h1, RS_o hp, RS_put h2, RS_up hp, RS_o hp]
theorem RS_addF {S : Sto} {n : Nat} {q : Qr} {pp : Nat} {x : Int32} (hp : pp ≠ 1) (h1 : pp + 4 ≠ 1) : addFS (RS S n q) pp x = RS (addFS S pp x) n q := by
  unfold addFS
  rw [RS_o hp, RS_put h1, RS_up hp, RS_o hp]
/-! the clauses: what each does to the plan, and to the reader's numbers -/
def szB (S : Sto) (pp : Nat) : Bool := !decide (S pp 4 ≤ 0)
def szQ1 (t : Nat → Int32) (n : Nat) (q : Qr) (b : Bool) : Qr := qWord q b
def szQ2 (t : Nat → Int32) (n : Nat) (q : Qr) (b : Bool) : Qr := tnQ t n (qWord q b) (nI 2) (nI 5)
def szQ3 (t : Nat → Int32) (n : Nat) (q : Qr) (b : Bool) : Qr := tnQ t n (szQ2 t n q b) (nI 2) (nI 5)
def szQ (t : Nat → Int32) (n : Nat) (q : Qr) (b : Bool) : Qr := qSign t n (szQ3 t n q b) (nI 59)
def szS (S : Sto) (pp n : Nat) (q : Qr) : Sto := if okSign (S 2) n (szQ3 (S 2) n q (szB S pp)) (nI 59) then rszS S pp (nI (tnM (S 2) n (qWord q (szB S pp)))) (nI (tnM (S 2) n (szQ2 (S 2) n q (szB S pp)))) (tnM (S 2) n (qWord q (szB S pp))) else S
def lkB (S : Sto) (pp : Nat) : Bool := !decide (S pp 8 < nI 4)
def lkQ2 (S : Sto) (pp n : Nat) (q : Qr) : Qr := tnQ (S 2) n (qWord q (lkB S pp)) (nI 0) (plCells S pp - nI 1)
def lkS' (S : Sto) (pp n : Nat) (q : Qr) : Sto := if okSign (S 2) n (lkQ2 S pp n q) (nI 59) then addLS S pp (nI (tnM (S 2) n (qWord q (lkB S pp)))) else S
def ckB (S : Sto) (pp : Nat) : Bool := !decide (S pp 9 < nI 6)
def ckQ2 (S : Sto) (pp n : Nat) (q : Qr) : Qr := tnQ (S 2) n (qWord q (ckB S pp)) (nI 0) (plCells S pp - nI 1)
def ckQ3 (S : Sto) (pp n : Nat) (q : Qr) : Qr := tnQ (S 2) n (ckQ2 S pp n q) (nI 0) (plCells S pp - nI 1)
def ckA (S : Sto) (pp n : Nat) (q : Qr) : Int32 := nI (tnM (S 2) n (qWord q (ckB S pp)))
def ckC (S : Sto) (pp n : Nat) (q : Qr) : Int32 := nI (tnM (S 2) n (ckQ2 S pp n q))
def ckQ4 (S : Sto) (pp n nc : Nat) (q : Qr) : Qr := if plTouch S pp (ckA S pp n q) (ckC S pp n q) ∧ ¬ crkB S pp (ckA S pp n q) (ckC S pp n q) nc = true then ckQ3 S pp n q else qFail (ckQ3 S pp n q) 4 (nI (ckQ3 S pp n q).2.2.2.1)
def ckS (S : Sto) (pp n nc : Nat) (q : Qr) : Sto := if okSign (S 2) n (ckQ4 S pp n nc q) (nI 59) then addCS S pp (ckA S pp n q) (ckC S pp n q) else S
theorem plTouch_c {S T : Sto} {pp : Nat} (h : T pp = S pp) (a b : Int32) : plTouch T pp a b ↔ plTouch S pp a b := by
  unfold plTouch
  rw [plCol_c h, h]
theorem crkB_c {S T : Sto} {pp : Nat} (h2 : T (pp + 2) = S (pp + 2)) (h3 : T (pp + 3) = S (pp + 3)) (a b : Int32) : ∀ n, crkB T pp a b n = crkB S pp a b n
  | 0 => rfl
  | n + 1 => by
    unfold crkB
    rw [crkB_c h2 h3 a b n]
    unfold plIs
    rw [h2, h3]
set_option maxHeartbeats 4000000 in
set_option maxRecDepth 100000 in
theorem c_X8_readSize (l : Launch) (C : JC) (hC : JInj C) (S : Sto) (pp : Nat) (h0 : jsh pp = (0, 6)) (h1 : jsh (pp + 1) = (1, 4)) (h2 : jsh (pp + 2) = (1, 6)) (h3 : jsh (pp + 3) = (1, 6)) (h4 : jsh (pp + 4) = (1, 5)) (n : Nat) (hn : n ≤ 240) (q : Qr) (hb : qBound n q) (ha : q.2.2.1 < n) : Con l C yX8_readSize cX8_readSize 4 none 4 [.ref (C.2.1 1), .ref (C.2.1 pp)] (RS S n q) none (RS (szS S pp n q) n (szQ (S 2) n q (szB S pp))) := by
  have p1 : pp ≠ 1 := ne_sh h0 (show jsh 1 = (0, 7) from rfl) (by decide)
  have p11 : pp + 1 ≠ 1 := fun z => absurd (ne_sh h0 (show jsh 0 = (0, 9) from rfl) (by decide)) (by omega)
  have p2 : pp ≠ 2 := ne_sh h0 (show jsh 2 = (1, 240) from rfl) (by decide)
  refine con_of RX8 2 [some (.ref (C.2.1 1)), some (.ref (C.2.1 pp)), none, none] (by decide) rfl hC (Nat.le_of_ble_eq_true rfl) rfl (Nat.le_of_ble_eq_true rfl) (fun E hE hR => ?_)
  refine j_aload0 hE dX8_readSize_0 ?_
  refine j_aload1 hE dX8_readSize_1 ?_
  refine j_geti hE fX8_50 dX8_readSize_2 (by first | assumption | rfl) ?_
  refine j_ifle hE 12 dX8_readSize_5 (by decide) (fun c5 => ?_) (fun c5 => ?_)
  · skip
    rw [RS_o p1] at c5
    refine j_iconst hE (nI 0) dX8_readSize_12 kiconst_0 ?_
    refine j_V1v hE mX8_72 (c_X8_takeWord l C hC S n hn q hb _ (szB S pp) (by simp [szB, c5]; try decide)) dX8_readSize_13 (by first | assumption | rfl) (by decide) (Nat.le_of_ble_eq_true rfl) ?_
    refine j_aload0 hE dX8_readSize_16 ?_
    refine j_iconst hE (nI 2) dX8_readSize_17 kiconst_2 ?_
    refine j_iconst hE (nI 5) dX8_readSize_18 kiconst_5 ?_
    refine j_V2i hE mX8_76 (c_X8_takeNumber l C hC S n hn _ (qB_word hb ha) _ _) dX8_readSize_19 (by first | assumption | rfl) (by decide) (Nat.le_of_ble_eq_true rfl) ?_
    refine j_istore2 hE dX8_readSize_22 rfl ?_
    refine j_aload0 hE dX8_readSize_23 ?_
    refine j_iconst hE (nI 2) dX8_readSize_24 kiconst_2 ?_
    refine j_iconst hE (nI 5) dX8_readSize_25 kiconst_5 ?_
    refine j_V2i hE mX8_76 (c_X8_takeNumber l C hC S n hn _ (qB_num (qB_word hb ha)) _ _) dX8_readSize_26 (by first | assumption | rfl) (by decide) (Nat.le_of_ble_eq_true rfl) ?_
    refine j_istore3 hE dX8_readSize_29 rfl ?_
    refine j_aload0 hE dX8_readSize_30 ?_
    refine j_bipush hE (nI 59) dX8_readSize_31 kbipush_59 ?_
    refine j_V1i hE mX8_80 (c_X8_takeSign l C hC S n hn _ (qB_num (qB_num (qB_word hb ha))) _) dX8_readSize_33 (by first | assumption | rfl) (by decide) (Nat.le_of_ble_eq_true rfl) ?_
    first | refine j_ifeqP hE 45 dX8_readSize_36 (by decide) (fun c36 => ?_) (fun c36 => ?_) | refine j_ifeq hE 45 dX8_readSize_36 (by decide) (fun c36 => ?_) (fun c36 => ?_)
    · skip
      have c36 : ¬ okSign (S 2) n (szQ3 (S 2) n q (szB S pp)) (nI 59) := c36
      exact j_vret hE hR dX8_readSize_45 (by first
          | (rw [szS, if_neg c36]; rfl)
          | (rw [szS, if_pos c36, RS_rsz p1]; rfl))
    · skip
      have c36 : okSign (S 2) n (szQ3 (S 2) n q (szB S pp)) (nI 59) := c36
      refine j_aload1 hE dX8_readSize_39 ?_
      refine j_iload2 hE dX8_readSize_40 ?_
      refine j_iload3 hE dX8_readSize_41 ?_
      refine j_V2v hE mX8_84 (c_X7_resize l C hC _ pp h0 _ (Nat.lt_trans (tnM_lt _ _ _) (by decide)) _) dX8_readSize_42 (by first | assumption | rfl) (by decide) (Nat.le_of_ble_eq_true rfl) ?_
      exact j_vret hE hR dX8_readSize_45 (by first
          | (rw [szS, if_neg c36]; rfl)
          | (rw [szS, if_pos c36, RS_rsz p1]; rfl))
  · skip
    rw [RS_o p1] at c5
    refine j_iconst hE (nI 1) dX8_readSize_8 kiconst_1 ?_
    refine j_goto hE 13 dX8_readSize_9 (by decide) ?_
    refine j_V1v hE mX8_72 (c_X8_takeWord l C hC S n hn q hb _ (szB S pp) (by simp [szB, c5]; try decide)) dX8_readSize_13 (by first | assumption | rfl) (by decide) (Nat.le_of_ble_eq_true rfl) ?_
    refine j_aload0 hE dX8_readSize_16 ?_
    refine j_iconst hE (nI 2) dX8_readSize_17 kiconst_2 ?_
    refine j_iconst hE (nI 5) dX8_readSize_18 kiconst_5 ?_
    refine j_V2i hE mX8_76 (c_X8_takeNumber l C hC S n hn _ (qB_word hb ha) _ _) dX8_readSize_19 (by first | assumption | rfl) (by decide) (Nat.le_of_ble_eq_true rfl) ?_
    refine j_istore2 hE dX8_readSize_22 rfl ?_
    refine j_aload0 hE dX8_readSize_23 ?_
    refine j_iconst hE (nI 2) dX8_readSize_24 kiconst_2 ?_
    refine j_iconst hE (nI 5) dX8_readSize_25 kiconst_5 ?_
    refine j_V2i hE mX8_76 (c_X8_takeNumber l C hC S n hn _ (qB_num (qB_word hb ha)) _ _) dX8_readSize_26 (by first | assumption | rfl) (by decide) (Nat.le_of_ble_eq_true rfl) ?_
    refine j_istore3 hE dX8_readSize_29 rfl ?_
    refine j_aload0 hE dX8_readSize_30 ?_
    refine j_bipush hE (nI 59) dX8_readSize_31 kbipush_59 ?_
    refine j_V1i hE mX8_80 (c_X8_takeSign l C hC S n hn _ (qB_num (qB_num (qB_word hb ha))) _) dX8_readSize_33 (by first | assumption | rfl) (by decide) (Nat.le_of_ble_eq_true rfl) ?_
    first | refine j_ifeqP hE 45 dX8_readSize_36 (by decide) (fun c36 => ?_) (fun c36 => ?_) | refine j_ifeq hE 45 dX8_readSize_36 (by decide) (fun c36 => ?_) (fun c36 => ?_)
    · skip
      have c36 : ¬ okSign (S 2) n (szQ3 (S 2) n q (szB S pp)) (nI 59) := c36
      exact j_vret hE hR dX8_readSize_45 (by first
          | (rw [szS, if_neg c36]; rfl)
          | (rw [szS, if_pos c36, RS_rsz p1]; rfl))
    · skip
      have c36 : okSign (S 2) n (szQ3 (S 2) n q (szB S pp)) (nI 59) := c36
      refine j_aload1 hE dX8_readSize_39 ?_
      refine j_iload2 hE dX8_readSize_40 ?_
      refine j_iload3 hE dX8_readSize_41 ?_
      refine j_V2v hE mX8_84 (c_X7_resize l C hC _ pp h0 _ (Nat.lt_trans (tnM_lt _ _ _) (by decide)) _) dX8_readSize_42 (by first | assumption | rfl) (by decide) (Nat.le_of_ble_eq_true rfl) ?_
      exact j_vret hE hR dX8_readSize_45 (by first
          | (rw [szS, if_neg c36]; rfl)
          | (rw [szS, if_pos c36, RS_rsz p1]; rfl))

set_option maxHeartbeats 4000000 in
set_option maxRecDepth 100000 in
theorem c_X8_readLeak (l : Launch) (C : JC) (hC : JInj C) (S : Sto) (pp : Nat) (h0 : jsh pp = (0, 6)) (h1 : jsh (pp + 1) = (1, 4)) (h2 : jsh (pp + 2) = (1, 6)) (h3 : jsh (pp + 3) = (1, 6)) (h4 : jsh (pp + 4) = (1, 5)) (n : Nat) (hn : n ≤ 240) (q : Qr) (hb : qBound n q) (ha : q.2.2.1 < n) : Con l C yX8_readLeak cX8_readLeak 3 none 4 [.ref (C.2.1 1), .ref (C.2.1 pp)] (RS S n q) none (RS (lkS' S pp n q) n (qSign (S 2) n (lkQ2 S pp n q) (nI 59))) := by
  have p1 : pp ≠ 1 := ne_sh h0 (show jsh 1 = (0, 7) from rfl) (by decide)
  have p11 : pp + 1 ≠ 1 := fun z => absurd (ne_sh h0 (show jsh 0 = (0, 9) from rfl) (by decide)) (by omega)
  have p2 : pp ≠ 2 := ne_sh h0 (show jsh 2 = (1, 240) from rfl) (by decide)
  refine con_of RX8 1 [some (.ref (C.2.1 1)), some (.ref (C.2.1 pp)), none] (by decide) rfl hC (Nat.le_of_ble_eq_true rfl) rfl (Nat.le_of_ble_eq_true rfl) (fun E hE hR => ?_)
  refine j_aload0 hE dX8_readLeak_0 ?_
  refine j_aload1 hE dX8_readLeak_1 ?_
  refine j_geti hE fX8_87 dX8_readLeak_2 (by first | assumption | rfl) ?_
  refine j_iconst hE (nI 4) dX8_readLeak_5 kiconst_4 ?_
  refine j_icmplt hE 13 dX8_readLeak_6 (by decide) (fun c6 => ?_) (fun c6 => ?_)
  · skip
    rw [RS_o p1] at c6
    refine j_iconst hE (nI 0) dX8_readLeak_13 kiconst_0 ?_
    refine j_V1v hE mX8_72 (c_X8_takeWord l C hC S n hn q hb _ (lkB S pp) (by simp [lkB, c6]; try decide)) dX8_readLeak_14 (by first | assumption | rfl) (by decide) (Nat.le_of_ble_eq_true rfl) ?_
    refine j_aload0 hE dX8_readLeak_17 ?_
    refine j_iconst hE (nI 0) dX8_readLeak_18 kiconst_0 ?_
    refine j_aload1 hE dX8_readLeak_19 ?_
    refine j_V0i hE mX8_90 (c_X7_cells l C hC _ pp h0) dX8_readLeak_20 (by first | assumption | rfl) (by decide) (Nat.le_of_ble_eq_true rfl) ?_
    refine j_top (plCells_c (RS_o p1)) ?_
    refine j_iconst hE (nI 1) dX8_readLeak_23 kiconst_1 ?_
    refine j_isub hE dX8_readLeak_24 ?_
    refine j_V2i hE mX8_76 (c_X8_takeNumber l C hC S n hn _ (qB_word hb ha) _ _) dX8_readLeak_25 (by first | assumption | rfl) (by decide) (Nat.le_of_ble_eq_true rfl) ?_
    refine j_istore2 hE dX8_readLeak_28 rfl ?_
    refine j_aload0 hE dX8_readLeak_29 ?_
    refine j_bipush hE (nI 59) dX8_readLeak_30 kbipush_59 ?_
    refine j_V1i hE mX8_80 (c_X8_takeSign l C hC S n hn _ (qB_num (qB_word hb ha)) _) dX8_readLeak_32 (by first | assumption | rfl) (by decide) (Nat.le_of_ble_eq_true rfl) ?_
    first | refine j_ifeqP hE 43 dX8_readLeak_35 (by decide) (fun c35 => ?_) (fun c35 => ?_) | refine j_ifeq hE 43 dX8_readLeak_35 (by decide) (fun c35 => ?_) (fun c35 => ?_)
    · skip
      have c35 : ¬ okSign (S 2) n (lkQ2 S pp n q) (nI 59) := c35
      exact j_vret hE hR dX8_readLeak_43 (by first
          | (rw [lkS', if_neg c35]; rfl)
          | (rw [lkS', if_pos c35]; exact RS_addL p1 p11))
    · skip
      have c35 : okSign (S 2) n (lkQ2 S pp n q) (nI 59) := c35
      refine j_aload1 hE dX8_readLeak_38 ?_
      refine j_iload2 hE dX8_readLeak_39 ?_
      refine j_V1v hE mX8_93 (c_X7_addLeak l C hC _ pp h0 h1 h2 h3 h4 _) dX8_readLeak_40 (by first | assumption | rfl) (by decide) (Nat.le_of_ble_eq_true rfl) ?_
      exact j_vret hE hR dX8_readLeak_43 (by first
          | (rw [lkS', if_neg c35]; rfl)
          | (rw [lkS', if_pos c35]; exact RS_addL p1 p11))
  · skip
    rw [RS_o p1] at c6
    refine j_iconst hE (nI 1) dX8_readLeak_9 kiconst_1 ?_
    refine j_goto hE 14 dX8_readLeak_10 (by decide) ?_
    refine j_V1v hE mX8_72 (c_X8_takeWord l C hC S n hn q hb _ (lkB S pp) (by simp [lkB, c6]; try decide)) dX8_readLeak_14 (by first | assumption | rfl) (by decide) (Nat.le_of_ble_eq_true rfl) ?_
    refine j_aload0 hE dX8_readLeak_17 ?_
    refine j_iconst hE (nI 0) dX8_readLeak_18 kiconst_0 ?_
    refine j_aload1 hE dX8_readLeak_19 ?_
    refine j_V0i hE mX8_90 (c_X7_cells l C hC _ pp h0) dX8_readLeak_20 (by first | assumption | rfl) (by decide) (Nat.le_of_ble_eq_true rfl) ?_
    refine j_top (plCells_c (RS_o p1)) ?_
    refine j_iconst hE (nI 1) dX8_readLeak_23 kiconst_1 ?_
    refine j_isub hE dX8_readLeak_24 ?_
    refine j_V2i hE mX8_76 (c_X8_takeNumber l C hC S n hn _ (qB_word hb ha) _ _) dX8_readLeak_25 (by first | assumption | rfl) (by decide) (Nat.le_of_ble_eq_true rfl) ?_
    refine j_istore2 hE dX8_readLeak_28 rfl ?_
    refine j_aload0 hE dX8_readLeak_29 ?_
    refine j_bipush hE (nI 59) dX8_readLeak_30 kbipush_59 ?_
    refine j_V1i hE mX8_80 (c_X8_takeSign l C hC S n hn _ (qB_num (qB_word hb ha)) _) dX8_readLeak_32 (by first | assumption | rfl) (by decide) (Nat.le_of_ble_eq_true rfl) ?_
    first | refine j_ifeqP hE 43 dX8_readLeak_35 (by decide) (fun c35 => ?_) (fun c35 => ?_) | refine j_ifeq hE 43 dX8_readLeak_35 (by decide) (fun c35 => ?_) (fun c35 => ?_)
    · skip
      have c35 : ¬ okSign (S 2) n (lkQ2 S pp n q) (nI 59) := c35
      exact j_vret hE hR dX8_readLeak_43 (by first
          | (rw [lkS', if_neg c35]; rfl)
          | (rw [lkS', if_pos c35]; exact RS_addL p1 p11))
    · skip
      have c35 : okSign (S 2) n (lkQ2 S pp n q) (nI 59) := c35
      refine j_aload1 hE dX8_readLeak_38 ?_
      refine j_iload2 hE dX8_readLeak_39 ?_
      refine j_V1v hE mX8_93 (c_X7_addLeak l C hC _ pp h0 h1 h2 h3 h4 _) dX8_readLeak_40 (by first | assumption | rfl) (by decide) (Nat.le_of_ble_eq_true rfl) ?_
      exact j_vret hE hR dX8_readLeak_43 (by first
          | (rw [lkS', if_neg c35]; rfl)
          | (rw [lkS', if_pos c35]; exact RS_addL p1 p11))

set_option maxHeartbeats 4000000 in
set_option maxRecDepth 100000 in
theorem c_X8_readCrack (l : Launch) (C : JC) (hC : JInj C) (S : Sto) (pp : Nat) (h0 : jsh pp = (0, 6)) (h1 : jsh (pp + 1) = (1, 4)) (h2 : jsh (pp + 2) = (1, 6)) (h3 : jsh (pp + 3) = (1, 6)) (h4 : jsh (pp + 4) = (1, 5)) (n : Nat) (hn : n ≤ 240) (q : Qr) (hb : qBound n q) (ha : q.2.2.1 < n) (nc : Nat) (hnc : S pp 9 = nI nc) (hle : nc ≤ 6) : Con l C yX8_readCrack cX8_readCrack 4 none 4 [.ref (C.2.1 1), .ref (C.2.1 pp)] (RS S n q) none (RS (ckS S pp n nc q) n (qSign (S 2) n (ckQ4 S pp n nc q) (nI 59))) := by
  have p1 : pp ≠ 1 := ne_sh h0 (show jsh 1 = (0, 7) from rfl) (by decide)
  have p11 : pp + 1 ≠ 1 := fun z => absurd (ne_sh h0 (show jsh 0 = (0, 9) from rfl) (by decide)) (by omega)
  have p2 : pp ≠ 2 := ne_sh h0 (show jsh 2 = (1, 240) from rfl) (by decide)
  refine con_of RX8 2 [some (.ref (C.2.1 1)), some (.ref (C.2.1 pp)), none, none] (by decide) rfl hC (Nat.le_of_ble_eq_true rfl) rfl (Nat.le_of_ble_eq_true rfl) (fun E hE hR => ?_)
  refine j_aload0 hE dX8_readCrack_0 ?_
  refine j_aload1 hE dX8_readCrack_1 ?_
  refine j_geti hE fX8_97 dX8_readCrack_2 (by first | assumption | rfl) ?_
  refine j_bipush hE (nI 6) dX8_readCrack_5 kbipush_6 ?_
  refine j_icmplt hE 14 dX8_readCrack_7 (by decide) (fun c7 => ?_) (fun c7 => ?_)
  · skip
    rw [RS_o p1] at c7
    refine j_iconst hE (nI 0) dX8_readCrack_14 kiconst_0 ?_
    refine j_V1v hE mX8_72 (c_X8_takeWord l C hC S n hn q hb _ (ckB S pp) (by simp [ckB, c7]; try decide)) dX8_readCrack_15 (by first | assumption | rfl) (by decide) (Nat.le_of_ble_eq_true rfl) ?_
    refine j_aload0 hE dX8_readCrack_18 ?_
    refine j_iconst hE (nI 0) dX8_readCrack_19 kiconst_0 ?_
    refine j_aload1 hE dX8_readCrack_20 ?_
    refine j_V0i hE mX8_90 (c_X7_cells l C hC _ pp h0) dX8_readCrack_21 (by first | assumption | rfl) (by decide) (Nat.le_of_ble_eq_true rfl) ?_
    refine j_top (plCells_c (RS_o p1)) ?_
    refine j_iconst hE (nI 1) dX8_readCrack_24 kiconst_1 ?_
    refine j_isub hE dX8_readCrack_25 ?_
    refine j_V2i hE mX8_76 (c_X8_takeNumber l C hC S n hn _ (qB_word hb ha) _ _) dX8_readCrack_26 (by first | assumption | rfl) (by decide) (Nat.le_of_ble_eq_true rfl) ?_
    refine j_istore2 hE dX8_readCrack_29 rfl ?_
    refine j_aload0 hE dX8_readCrack_30 ?_
    refine j_iconst hE (nI 0) dX8_readCrack_31 kiconst_0 ?_
    refine j_aload1 hE dX8_readCrack_32 ?_
    refine j_V0i hE mX8_90 (c_X7_cells l C hC _ pp h0) dX8_readCrack_33 (by first | assumption | rfl) (by decide) (Nat.le_of_ble_eq_true rfl) ?_
    refine j_top (plCells_c (RS_o p1)) ?_
    refine j_iconst hE (nI 1) dX8_readCrack_36 kiconst_1 ?_
    refine j_isub hE dX8_readCrack_37 ?_
    refine j_V2i hE mX8_76 (c_X8_takeNumber l C hC S n hn _ (qB_num (qB_word hb ha)) _ _) dX8_readCrack_38 (by first | assumption | rfl) (by decide) (Nat.le_of_ble_eq_true rfl) ?_
    refine j_istore3 hE dX8_readCrack_41 rfl ?_
    refine j_aload1 hE dX8_readCrack_42 ?_
    refine j_iload2 hE dX8_readCrack_43 ?_
    refine j_iload3 hE dX8_readCrack_44 ?_
    refine j_V2i hE mX8_100 (c_X7_touch l C hC _ pp h0 _ _) dX8_readCrack_45 (by first | assumption | rfl) (by decide) (Nat.le_of_ble_eq_true rfl) ?_
    first | refine j_ifeqP hE 60 dX8_readCrack_48 (by decide) (fun c48 => ?_) (fun c48 => ?_) | refine j_ifeq hE 60 dX8_readCrack_48 (by decide) (fun c48 => ?_) (fun c48 => ?_)
    · skip
      have c48 : ¬ plTouch S pp (ckA S pp n q) (ckC S pp n q) := fun z => c48 ((plTouch_c (RS_o p1) _ _).mpr z)
      refine j_aload0 hE dX8_readCrack_60 ?_
      refine j_iconst hE (nI 4) dX8_readCrack_61 kiconst_4 ?_
      refine j_aload0 hE dX8_readCrack_62 ?_
      refine j_geti hE fX8_107 dX8_readCrack_63 (by first | assumption | rfl) ?_
      refine j_V2v hE mX8_53 (c_X8_fail l C hC S n hn _ (qB_num (qB_num (qB_word hb ha))) 4 _) dX8_readCrack_66 (by first | assumption | rfl) (by decide) (Nat.le_of_ble_eq_true rfl) ?_
      have hq4 : ckQ4 S pp n nc q = qFail (ckQ3 S pp n q) 4 (nI (ckQ3 S pp n q).2.2.2.1) := by
        rw [ckQ4]
        first
          | (rw [if_neg (fun z => c48 z.1)]; done)
          | (rw [if_neg (fun z => z.2 c57)]; done)
      refine j_eqS (S' := RS S n (ckQ4 S pp n nc q)) (by rw [hq4, RS_5]; rfl) ?_
      try refine j_eqS (S' := RS S n (ckQ4 S pp n nc q)) (by rw [hq4]; rfl) ?_
      refine j_aload0 hE dX8_readCrack_69 ?_
      refine j_bipush hE (nI 59) dX8_readCrack_70 kbipush_59 ?_
      refine j_V1i hE mX8_80 (c_X8_takeSign l C hC S n hn (ckQ4 S pp n nc q) (by rw [hq4]; first | exact qB_num (qB_num (qB_word hb ha)) | exact qB_fail (qB_num (qB_num (qB_word hb ha))) (by decide)) _) dX8_readCrack_72 (by first | assumption | rfl) (by decide) (Nat.le_of_ble_eq_true rfl) ?_
      first | refine j_ifeqP hE 84 dX8_readCrack_75 (by decide) (fun c75 => ?_) (fun c75 => ?_) | refine j_ifeq hE 84 dX8_readCrack_75 (by decide) (fun c75 => ?_) (fun c75 => ?_)
      · skip
        exact j_vret hE hR dX8_readCrack_84 (by first
            | (rw [ckS, if_neg c75]; done)
            | (rw [ckS, if_pos c75]; exact RS_addC p1 (by omega) (by omega)))
      · skip
        refine j_aload1 hE dX8_readCrack_78 ?_
        refine j_iload2 hE dX8_readCrack_79 ?_
        refine j_iload3 hE dX8_readCrack_80 ?_
        refine j_V2v hE mX8_110 (c_X7_addCrack l C hC _ pp h0 h1 h2 h3 h4 _ _) dX8_readCrack_81 (by first | assumption | rfl) (by decide) (Nat.le_of_ble_eq_true rfl) ?_
        exact j_vret hE hR dX8_readCrack_84 (by first
            | (rw [ckS, if_neg c75]; done)
            | (rw [ckS, if_pos c75]; exact RS_addC p1 (by omega) (by omega)))
    · skip
      have c48 : plTouch S pp (ckA S pp n q) (ckC S pp n q) := (plTouch_c (RS_o p1) _ _).mp c48
      refine j_aload1 hE dX8_readCrack_51 ?_
      refine j_iload2 hE dX8_readCrack_52 ?_
      refine j_iload3 hE dX8_readCrack_53 ?_
      refine j_V2i hE mX8_104 (c_X7_isCracked l C hC _ pp h0 h1 h2 h3 h4 nc (by rw [RS_o p1]; exact hnc) hle _ _) dX8_readCrack_54 (by first | assumption | rfl) (by decide) (Nat.le_of_ble_eq_true rfl) ?_
      first | refine j_ifeqP hE 69 dX8_readCrack_57 (by decide) (fun c57 => ?_) (fun c57 => ?_) | refine j_ifeq hE 69 dX8_readCrack_57 (by decide) (fun c57 => ?_) (fun c57 => ?_)
      · skip
        rw [crkB_c (RS_o (by omega)) (RS_o (by omega))] at c57
        have hq4 : ckQ4 S pp n nc q = ckQ3 S pp n q := by rw [ckQ4, if_pos ⟨c48, c57⟩]
        try refine j_eqS (S' := RS S n (ckQ4 S pp n nc q)) (by rw [hq4]; rfl) ?_
        refine j_aload0 hE dX8_readCrack_69 ?_
        refine j_bipush hE (nI 59) dX8_readCrack_70 kbipush_59 ?_
        refine j_V1i hE mX8_80 (c_X8_takeSign l C hC S n hn (ckQ4 S pp n nc q) (by rw [hq4]; first | exact qB_num (qB_num (qB_word hb ha)) | exact qB_fail (qB_num (qB_num (qB_word hb ha))) (by decide)) _) dX8_readCrack_72 (by first | assumption | rfl) (by decide) (Nat.le_of_ble_eq_true rfl) ?_
        first | refine j_ifeqP hE 84 dX8_readCrack_75 (by decide) (fun c75 => ?_) (fun c75 => ?_) | refine j_ifeq hE 84 dX8_readCrack_75 (by decide) (fun c75 => ?_) (fun c75 => ?_)
        · skip
          exact j_vret hE hR dX8_readCrack_84 (by first
              | (rw [ckS, if_neg c75]; done)
              | (rw [ckS, if_pos c75]; exact RS_addC p1 (by omega) (by omega)))
        · skip
          refine j_aload1 hE dX8_readCrack_78 ?_
          refine j_iload2 hE dX8_readCrack_79 ?_
          refine j_iload3 hE dX8_readCrack_80 ?_
          refine j_V2v hE mX8_110 (c_X7_addCrack l C hC _ pp h0 h1 h2 h3 h4 _ _) dX8_readCrack_81 (by first | assumption | rfl) (by decide) (Nat.le_of_ble_eq_true rfl) ?_
          exact j_vret hE hR dX8_readCrack_84 (by first
              | (rw [ckS, if_neg c75]; done)
              | (rw [ckS, if_pos c75]; exact RS_addC p1 (by omega) (by omega)))
      · skip
        rw [crkB_c (RS_o (by omega)) (RS_o (by omega))] at c57
        refine j_aload0 hE dX8_readCrack_60 ?_
        refine j_iconst hE (nI 4) dX8_readCrack_61 kiconst_4 ?_
        refine j_aload0 hE dX8_readCrack_62 ?_
        refine j_geti hE fX8_107 dX8_readCrack_63 (by first | assumption | rfl) ?_
        refine j_V2v hE mX8_53 (c_X8_fail l C hC S n hn _ (qB_num (qB_num (qB_word hb ha))) 4 _) dX8_readCrack_66 (by first | assumption | rfl) (by decide) (Nat.le_of_ble_eq_true rfl) ?_
        have hq4 : ckQ4 S pp n nc q = qFail (ckQ3 S pp n q) 4 (nI (ckQ3 S pp n q).2.2.2.1) := by
          rw [ckQ4]
          first
            | (rw [if_neg (fun z => c48 z.1)]; done)
            | (rw [if_neg (fun z => z.2 c57)]; done)
        refine j_eqS (S' := RS S n (ckQ4 S pp n nc q)) (by rw [hq4, RS_5]; rfl) ?_
        try refine j_eqS (S' := RS S n (ckQ4 S pp n nc q)) (by rw [hq4]; rfl) ?_
        refine j_aload0 hE dX8_readCrack_69 ?_
        refine j_bipush hE (nI 59) dX8_readCrack_70 kbipush_59 ?_
        refine j_V1i hE mX8_80 (c_X8_takeSign l C hC S n hn (ckQ4 S pp n nc q) (by rw [hq4]; first | exact qB_num (qB_num (qB_word hb ha)) | exact qB_fail (qB_num (qB_num (qB_word hb ha))) (by decide)) _) dX8_readCrack_72 (by first | assumption | rfl) (by decide) (Nat.le_of_ble_eq_true rfl) ?_
        first | refine j_ifeqP hE 84 dX8_readCrack_75 (by decide) (fun c75 => ?_) (fun c75 => ?_) | refine j_ifeq hE 84 dX8_readCrack_75 (by decide) (fun c75 => ?_) (fun c75 => ?_)
        · skip
          exact j_vret hE hR dX8_readCrack_84 (by first
              | (rw [ckS, if_neg c75]; done)
              | (rw [ckS, if_pos c75]; exact RS_addC p1 (by omega) (by omega)))
        · skip
          refine j_aload1 hE dX8_readCrack_78 ?_
          refine j_iload2 hE dX8_readCrack_79 ?_
          refine j_iload3 hE dX8_readCrack_80 ?_
          refine j_V2v hE mX8_110 (c_X7_addCrack l C hC _ pp h0 h1 h2 h3 h4 _ _) dX8_readCrack_81 (by first | assumption | rfl) (by decide) (Nat.le_of_ble_eq_true rfl) ?_
          exact j_vret hE hR dX8_readCrack_84 (by first
              | (rw [ckS, if_neg c75]; done)
              | (rw [ckS, if_pos c75]; exact RS_addC p1 (by omega) (by omega)))
  · skip
    rw [RS_o p1] at c7
    refine j_iconst hE (nI 1) dX8_readCrack_10 kiconst_1 ?_
    refine j_goto hE 15 dX8_readCrack_11 (by decide) ?_
    refine j_V1v hE mX8_72 (c_X8_takeWord l C hC S n hn q hb _ (ckB S pp) (by simp [ckB, c7]; try decide)) dX8_readCrack_15 (by first | assumption | rfl) (by decide) (Nat.le_of_ble_eq_true rfl) ?_
    refine j_aload0 hE dX8_readCrack_18 ?_
    refine j_iconst hE (nI 0) dX8_readCrack_19 kiconst_0 ?_
    refine j_aload1 hE dX8_readCrack_20 ?_
    refine j_V0i hE mX8_90 (c_X7_cells l C hC _ pp h0) dX8_readCrack_21 (by first | assumption | rfl) (by decide) (Nat.le_of_ble_eq_true rfl) ?_
    refine j_top (plCells_c (RS_o p1)) ?_
    refine j_iconst hE (nI 1) dX8_readCrack_24 kiconst_1 ?_
    refine j_isub hE dX8_readCrack_25 ?_
    refine j_V2i hE mX8_76 (c_X8_takeNumber l C hC S n hn _ (qB_word hb ha) _ _) dX8_readCrack_26 (by first | assumption | rfl) (by decide) (Nat.le_of_ble_eq_true rfl) ?_
    refine j_istore2 hE dX8_readCrack_29 rfl ?_
    refine j_aload0 hE dX8_readCrack_30 ?_
    refine j_iconst hE (nI 0) dX8_readCrack_31 kiconst_0 ?_
    refine j_aload1 hE dX8_readCrack_32 ?_
    refine j_V0i hE mX8_90 (c_X7_cells l C hC _ pp h0) dX8_readCrack_33 (by first | assumption | rfl) (by decide) (Nat.le_of_ble_eq_true rfl) ?_
    refine j_top (plCells_c (RS_o p1)) ?_
    refine j_iconst hE (nI 1) dX8_readCrack_36 kiconst_1 ?_
    refine j_isub hE dX8_readCrack_37 ?_
    refine j_V2i hE mX8_76 (c_X8_takeNumber l C hC S n hn _ (qB_num (qB_word hb ha)) _ _) dX8_readCrack_38 (by first | assumption | rfl) (by decide) (Nat.le_of_ble_eq_true rfl) ?_
    refine j_istore3 hE dX8_readCrack_41 rfl ?_
    refine j_aload1 hE dX8_readCrack_42 ?_
    refine j_iload2 hE dX8_readCrack_43 ?_
    refine j_iload3 hE dX8_readCrack_44 ?_
    refine j_V2i hE mX8_100 (c_X7_touch l C hC _ pp h0 _ _) dX8_readCrack_45 (by first | assumption | rfl) (by decide) (Nat.le_of_ble_eq_true rfl) ?_
    first | refine j_ifeqP hE 60 dX8_readCrack_48 (by decide) (fun c48 => ?_) (fun c48 => ?_) | refine j_ifeq hE 60 dX8_readCrack_48 (by decide) (fun c48 => ?_) (fun c48 => ?_)
    · skip
      have c48 : ¬ plTouch S pp (ckA S pp n q) (ckC S pp n q) := fun z => c48 ((plTouch_c (RS_o p1) _ _).mpr z)
      refine j_aload0 hE dX8_readCrack_60 ?_
      refine j_iconst hE (nI 4) dX8_readCrack_61 kiconst_4 ?_
      refine j_aload0 hE dX8_readCrack_62 ?_
      refine j_geti hE fX8_107 dX8_readCrack_63 (by first | assumption | rfl) ?_
      refine j_V2v hE mX8_53 (c_X8_fail l C hC S n hn _ (qB_num (qB_num (qB_word hb ha))) 4 _) dX8_readCrack_66 (by first | assumption | rfl) (by decide) (Nat.le_of_ble_eq_true rfl) ?_
      have hq4 : ckQ4 S pp n nc q = qFail (ckQ3 S pp n q) 4 (nI (ckQ3 S pp n q).2.2.2.1) := by
        rw [ckQ4]
        first
          | (rw [if_neg (fun z => c48 z.1)]; done)
          | (rw [if_neg (fun z => z.2 c57)]; done)
      refine j_eqS (S' := RS S n (ckQ4 S pp n nc q)) (by rw [hq4, RS_5]; rfl) ?_
      try refine j_eqS (S' := RS S n (ckQ4 S pp n nc q)) (by rw [hq4]; rfl) ?_
      refine j_aload0 hE dX8_readCrack_69 ?_
      refine j_bipush hE (nI 59) dX8_readCrack_70 kbipush_59 ?_
      refine j_V1i hE mX8_80 (c_X8_takeSign l C hC S n hn (ckQ4 S pp n nc q) (by rw [hq4]; first | exact qB_num (qB_num (qB_word hb ha)) | exact qB_fail (qB_num (qB_num (qB_word hb ha))) (by decide)) _) dX8_readCrack_72 (by first | assumption | rfl) (by decide) (Nat.le_of_ble_eq_true rfl) ?_
      first | refine j_ifeqP hE 84 dX8_readCrack_75 (by decide) (fun c75 => ?_) (fun c75 => ?_) | refine j_ifeq hE 84 dX8_readCrack_75 (by decide) (fun c75 => ?_) (fun c75 => ?_)
      · skip
        exact j_vret hE hR dX8_readCrack_84 (by first
            | (rw [ckS, if_neg c75]; done)
            | (rw [ckS, if_pos c75]; exact RS_addC p1 (by omega) (by omega)))
      · skip
        refine j_aload1 hE dX8_readCrack_78 ?_
        refine j_iload2 hE dX8_readCrack_79 ?_
        refine j_iload3 hE dX8_readCrack_80 ?_
        refine j_V2v hE mX8_110 (c_X7_addCrack l C hC _ pp h0 h1 h2 h3 h4 _ _) dX8_readCrack_81 (by first | assumption | rfl) (by decide) (Nat.le_of_ble_eq_true rfl) ?_
        exact j_vret hE hR dX8_readCrack_84 (by first
            | (rw [ckS, if_neg c75]; done)
            | (rw [ckS, if_pos c75]; exact RS_addC p1 (by omega) (by omega)))
    · skip
      have c48 : plTouch S pp (ckA S pp n q) (ckC S pp n q) := (plTouch_c (RS_o p1) _ _).mp c48
      refine j_aload1 hE dX8_readCrack_51 ?_
      refine j_iload2 hE dX8_readCrack_52 ?_
      refine j_iload3 hE dX8_readCrack_53 ?_
      refine j_V2i hE mX8_104 (c_X7_isCracked l C hC _ pp h0 h1 h2 h3 h4 nc (by rw [RS_o p1]; exact hnc) hle _ _) dX8_readCrack_54 (by first | assumption | rfl) (by decide) (Nat.le_of_ble_eq_true rfl) ?_
      first | refine j_ifeqP hE 69 dX8_readCrack_57 (by decide) (fun c57 => ?_) (fun c57 => ?_) | refine j_ifeq hE 69 dX8_readCrack_57 (by decide) (fun c57 => ?_) (fun c57 => ?_)
      · skip
        rw [crkB_c (RS_o (by omega)) (RS_o (by omega))] at c57
        have hq4 : ckQ4 S pp n nc q = ckQ3 S pp n q := by rw [ckQ4, if_pos ⟨c48, c57⟩]
        try refine j_eqS (S' := RS S n (ckQ4 S pp n nc q)) (by rw [hq4]; rfl) ?_
        refine j_aload0 hE dX8_readCrack_69 ?_
        refine j_bipush hE (nI 59) dX8_readCrack_70 kbipush_59 ?_
        refine j_V1i hE mX8_80 (c_X8_takeSign l C hC S n hn (ckQ4 S pp n nc q) (by rw [hq4]; first | exact qB_num (qB_num (qB_word hb ha)) | exact qB_fail (qB_num (qB_num (qB_word hb ha))) (by decide)) _) dX8_readCrack_72 (by first | assumption | rfl) (by decide) (Nat.le_of_ble_eq_true rfl) ?_
        first | refine j_ifeqP hE 84 dX8_readCrack_75 (by decide) (fun c75 => ?_) (fun c75 => ?_) | refine j_ifeq hE 84 dX8_readCrack_75 (by decide) (fun c75 => ?_) (fun c75 => ?_)
        · skip
          exact j_vret hE hR dX8_readCrack_84 (by first
              | (rw [ckS, if_neg c75]; done)
              | (rw [ckS, if_pos c75]; exact RS_addC p1 (by omega) (by omega)))
        · skip
          refine j_aload1 hE dX8_readCrack_78 ?_
          refine j_iload2 hE dX8_readCrack_79 ?_
          refine j_iload3 hE dX8_readCrack_80 ?_
          refine j_V2v hE mX8_110 (c_X7_addCrack l C hC _ pp h0 h1 h2 h3 h4 _ _) dX8_readCrack_81 (by first | assumption | rfl) (by decide) (Nat.le_of_ble_eq_true rfl) ?_
          exact j_vret hE hR dX8_readCrack_84 (by first
              | (rw [ckS, if_neg c75]; done)
              | (rw [ckS, if_pos c75]; exact RS_addC p1 (by omega) (by omega)))
      · skip
        rw [crkB_c (RS_o (by omega)) (RS_o (by omega))] at c57
        refine j_aload0 hE dX8_readCrack_60 ?_
        refine j_iconst hE (nI 4) dX8_readCrack_61 kiconst_4 ?_
        refine j_aload0 hE dX8_readCrack_62 ?_
        refine j_geti hE fX8_107 dX8_readCrack_63 (by first | assumption | rfl) ?_
        refine j_V2v hE mX8_53 (c_X8_fail l C hC S n hn _ (qB_num (qB_num (qB_word hb ha))) 4 _) dX8_readCrack_66 (by first | assumption | rfl) (by decide) (Nat.le_of_ble_eq_true rfl) ?_
        have hq4 : ckQ4 S pp n nc q = qFail (ckQ3 S pp n q) 4 (nI (ckQ3 S pp n q).2.2.2.1) := by
          rw [ckQ4]
          first
            | (rw [if_neg (fun z => c48 z.1)]; done)
            | (rw [if_neg (fun z => z.2 c57)]; done)
        refine j_eqS (S' := RS S n (ckQ4 S pp n nc q)) (by rw [hq4, RS_5]; rfl) ?_
        try refine j_eqS (S' := RS S n (ckQ4 S pp n nc q)) (by rw [hq4]; rfl) ?_
        refine j_aload0 hE dX8_readCrack_69 ?_
        refine j_bipush hE (nI 59) dX8_readCrack_70 kbipush_59 ?_
        refine j_V1i hE mX8_80 (c_X8_takeSign l C hC S n hn (ckQ4 S pp n nc q) (by rw [hq4]; first | exact qB_num (qB_num (qB_word hb ha)) | exact qB_fail (qB_num (qB_num (qB_word hb ha))) (by decide)) _) dX8_readCrack_72 (by first | assumption | rfl) (by decide) (Nat.le_of_ble_eq_true rfl) ?_
        first | refine j_ifeqP hE 84 dX8_readCrack_75 (by decide) (fun c75 => ?_) (fun c75 => ?_) | refine j_ifeq hE 84 dX8_readCrack_75 (by decide) (fun c75 => ?_) (fun c75 => ?_)
        · skip
          exact j_vret hE hR dX8_readCrack_84 (by first
              | (rw [ckS, if_neg c75]; done)
              | (rw [ckS, if_pos c75]; exact RS_addC p1 (by omega) (by omega)))
        · skip
          refine j_aload1 hE dX8_readCrack_78 ?_
          refine j_iload2 hE dX8_readCrack_79 ?_
          refine j_iload3 hE dX8_readCrack_80 ?_
          refine j_V2v hE mX8_110 (c_X7_addCrack l C hC _ pp h0 h1 h2 h3 h4 _ _) dX8_readCrack_81 (by first | assumption | rfl) (by decide) (Nat.le_of_ble_eq_true rfl) ?_
          exact j_vret hE hR dX8_readCrack_84 (by first
              | (rw [ckS, if_neg c75]; done)
              | (rw [ckS, if_pos c75]; exact RS_addC p1 (by omega) (by omega)))

/-! a likeness, row by row -/
def fcB (S : Sto) (pp : Nat) : Bool := !decide (S pp 10 < nI 5)
def fcHi (S : Sto) (pp : Nat) : Int32 := (nI 1 <<< (S pp 5 &&& 31)) - nI 1
def fcR (S : Sto) (pp n : Nat) (q : Qr) : Nat → Int32 × Qr
  | 0 => (nI 0, qWord q (fcB S pp))
  | i + 1 =>
    let q1 := if i = 0 then (fcR S pp n q i).2 else qSign (S 2) n (fcR S pp n q i).2 (nI 44)
    ((fcR S pp n q i).1 ||| (nI (tnM (S 2) n q1) <<< ((nI i * S pp 5) &&& 31)), tnQ (S 2) n q1 (nI 0) (fcHi S pp))
theorem fcR_b {S : Sto} {pp n : Nat} {q : Qr} (hb : qBound n q) (ha : q.2.2.1 < n) : ∀ i, qBound n (fcR S pp n q i).2
  | 0 => qB_word hb ha
  | i + 1 => by
    unfold fcR
    by_cases h : i = 0
    · rw [if_pos h]
      exact qB_num (fcR_b hb ha i)
    · rw [if_neg h]
      exact qB_num (qB_sign (fcR_b hb ha i) (by decide))
def rwN (S : Sto) (pp : Nat) : Nat := (S pp 4).toNatClampNeg
def fcS (S : Sto) (pp n : Nat) (q : Qr) : Sto := if okSign (S 2) n (fcR S pp n q (rwN S pp)).2 (nI 59) then addFS S pp (fcR S pp n q (rwN S pp)).1 else S
def fcQ (S : Sto) (pp n : Nat) (q : Qr) : Qr := qSign (S 2) n (fcR S pp n q (rwN S pp)).2 (nI 59)
theorem clamp_le {x : Int32} {i : Nat} (hi : i < 2 ^ 31) : x ≤ nI i ↔ x.toNatClampNeg ≤ i := by
  rw [Int32.le_iff_toInt_le, nI_toInt hi]
  unfold Int32.toNatClampNeg
  omega
theorem clamp_b (x : Int32) : x.toNatClampNeg < 2 ^ 31 := by
  have := Int32.toInt_lt x
  unfold Int32.toNatClampNeg
  omega
set_option maxHeartbeats 4000000 in
set_option maxRecDepth 100000 in
theorem c_X8_readFace (l : Launch) (C : JC) (hC : JInj C) (S : Sto) (pp : Nat) (h0 : jsh pp = (0, 6)) (h1 : jsh (pp + 1) = (1, 4)) (h2 : jsh (pp + 2) = (1, 6)) (h3 : jsh (pp + 3) = (1, 6)) (h4 : jsh (pp + 4) = (1, 5)) (n : Nat) (hn : n ≤ 240) (q : Qr) (hb : qBound n q) (ha : q.2.2.1 < n) : Con l C yX8_readFace cX8_readFace 4 none 4 [.ref (C.2.1 1), .ref (C.2.1 pp)] (RS S n q) none (RS (fcS S pp n q) n (fcQ S pp n q)) := by
  have p1 : pp ≠ 1 := ne_sh h0 (show jsh 1 = (0, 7) from rfl) (by decide)
  have p11 : pp + 1 ≠ 1 := fun z => absurd (ne_sh h0 (show jsh 0 = (0, 9) from rfl) (by decide)) (by omega)
  have p2 : pp ≠ 2 := ne_sh h0 (show jsh 2 = (1, 240) from rfl) (by decide)
  have hcb := clamp_b (S pp 4)
  refine con_of RX8 2 [some (.ref (C.2.1 1)), some (.ref (C.2.1 pp)), none, none] (by decide) rfl hC (Nat.le_of_ble_eq_true rfl) rfl (Nat.le_of_ble_eq_true rfl) (fun E hE hR => ?_)
  refine j_aload0 hE dX8_readFace_0 ?_
  refine j_aload1 hE dX8_readFace_1 ?_
  refine j_geti hE fX8_113 dX8_readFace_2 (by first | assumption | rfl) ?_
  refine j_iconst hE (nI 5) dX8_readFace_5 kiconst_5 ?_
  refine j_icmplt hE 13 dX8_readFace_6 (by decide) (fun c6 => ?_) (fun c6 => ?_)
  · skip
    rw [RS_o p1] at c6
    refine j_iconst hE (nI 0) dX8_readFace_13 kiconst_0 ?_
    refine j_V1v hE mX8_72 (c_X8_takeWord l C hC S n hn q hb _ (fcB S pp) (by simp [fcB, c6]; try decide)) dX8_readFace_14 (by first | assumption | rfl) (by decide) (Nat.le_of_ble_eq_true rfl) ?_
    refine j_iconst hE (nI 0) dX8_readFace_17 kiconst_0 ?_
    refine j_istore2 hE dX8_readFace_18 rfl ?_
    refine j_iconst hE (nI 0) dX8_readFace_19 kiconst_0 ?_
    refine j_istore3 hE dX8_readFace_20 rfl ?_
    have L21 : ∀ (fu : Nat) (i : Nat), rwN S pp - i < fu → (i ≤ rwN S pp) → J C E (RS S n (fcR S pp n q i).2) 21 [some (.ref (C.2.1 1)), some (.ref (C.2.1 pp)), some (.int (fcR S pp n q i).1), some (.int (nI i))] [] := by
      intro fu
      induction fu with
      | zero => intro i hm; omega
      | succ fu ih =>
        intro i hm hi
        refine j_iload3 hE dX8_readFace_21 ?_
        refine j_aload1 hE dX8_readFace_22 ?_
        refine j_geti hE fX8_50 dX8_readFace_23 (by first | assumption | rfl) ?_
        refine j_icmpge hE 69 dX8_readFace_26 (by decide) (fun c26 => ?_) (fun c26 => ?_)
        · skip
          rw [RS_o p1] at c26
          have c26 : rwN S pp ≤ i := (clamp_le (by have : i ≤ rwN S pp := hi; unfold rwN at this; omega)).mp c26
          have hii : i = rwN S pp := by omega
          subst hii
          refine j_aload0 hE dX8_readFace_69 ?_
          refine j_bipush hE (nI 59) dX8_readFace_70 kbipush_59 ?_
          refine j_V1i hE mX8_80 (c_X8_takeSign l C hC S n hn _ (fcR_b hb ha _) _) dX8_readFace_72 (by first | assumption | rfl) (by decide) (Nat.le_of_ble_eq_true rfl) ?_
          first | refine j_ifeqP hE 83 dX8_readFace_75 (by decide) (fun c75 => ?_) (fun c75 => ?_) | refine j_ifeq hE 83 dX8_readFace_75 (by decide) (fun c75 => ?_) (fun c75 => ?_)
          · skip
            have c75 : ¬ okSign (S 2) n (fcR S pp n q (rwN S pp)).2 (nI 59) := c75
            exact j_vret hE hR dX8_readFace_83 (by first
                | (rw [fcS, if_neg c75]; rfl)
                | (rw [fcS, if_pos c75]; exact RS_addF p1 (by omega)))
          · skip
            have c75 : okSign (S 2) n (fcR S pp n q (rwN S pp)).2 (nI 59) := c75
            refine j_aload1 hE dX8_readFace_78 ?_
            refine j_iload2 hE dX8_readFace_79 ?_
            refine j_V1v hE mX8_119 (c_X7_addFace l C hC _ pp h0 h1 h2 h3 h4 _) dX8_readFace_80 (by first | assumption | rfl) (by decide) (Nat.le_of_ble_eq_true rfl) ?_
            exact j_vret hE hR dX8_readFace_83 (by first
                | (rw [fcS, if_neg c75]; rfl)
                | (rw [fcS, if_pos c75]; exact RS_addF p1 (by omega)))
        · skip
          rw [RS_o p1] at c26
          have c26 : i < rwN S pp := Nat.lt_of_not_le (fun z => c26 ((clamp_le (by have : i ≤ rwN S pp := hi; unfold rwN at this; omega)).mpr z))
          refine j_iload3 hE dX8_readFace_29 ?_
          refine j_ifle hE 40 dX8_readFace_30 (by decide) (fun c30 => ?_) (fun c30 => ?_)
          · skip
            have c30 : i = 0 := by
              rcases Nat.eq_zero_or_pos i with z | z
              · exact z
              · exact absurd c30 (nI_nle z (by have : i ≤ rwN S pp := hi; unfold rwN at this; omega))
            refine j_iload2 hE dX8_readFace_40 ?_
            refine j_aload0 hE dX8_readFace_41 ?_
            refine j_iconst hE (nI 0) dX8_readFace_42 kiconst_0 ?_
            refine j_iconst hE (nI 1) dX8_readFace_43 kiconst_1 ?_
            refine j_aload1 hE dX8_readFace_44 ?_
            refine j_geti hE fX8_116 dX8_readFace_45 (by first | assumption | rfl) ?_
            refine j_ishl hE dX8_readFace_48 ?_
            refine j_iconst hE (nI 1) dX8_readFace_49 kiconst_1 ?_
            refine j_isub hE dX8_readFace_50 ?_
            refine j_V2i hE mX8_76 (c_X8_takeNumber l C hC S n hn _ (by first | exact qB_sign (fcR_b hb ha i) (by decide) | exact fcR_b hb ha i) _ _) dX8_readFace_51 (by first | assumption | rfl) (by decide) (Nat.le_of_ble_eq_true rfl) ?_
            refine j_iload3 hE dX8_readFace_54 ?_
            refine j_aload1 hE dX8_readFace_55 ?_
            refine j_geti hE fX8_116 dX8_readFace_56 (by first | assumption | rfl) ?_
            refine j_imul hE dX8_readFace_59 ?_
            refine j_ishl hE dX8_readFace_60 ?_
            refine j_ior hE dX8_readFace_61 ?_
            refine j_istore2 hE dX8_readFace_62 rfl ?_
            refine j_iinc3 hE (nI (i + 1)) dX8_readFace_63 (nI_inc _) rfl ?_
            refine j_goto hE 21 dX8_readFace_66 (by decide) ?_
            exact j_cast (by first | (rw [fcR, if_neg c30, RS_o p1]; done) | (rw [fcR, if_neg c30, RS_o p1]; rfl) | (rw [fcR, if_pos c30, RS_o p1]; done) | (rw [fcR, if_pos c30, RS_o p1]; rfl)) (by first | (rw [fcR, if_neg c30, RS_o p1]; done) | (rw [fcR, if_pos c30, RS_o p1]; done)) (ih (i + 1) (by omega) (by omega))
          · skip
            have c30 : ¬ i = 0 := fun z => by subst z; exact c30 (by decide)
            refine j_aload0 hE dX8_readFace_33 ?_
            refine j_bipush hE (nI 44) dX8_readFace_34 kbipush_44 ?_
            refine j_V1i hE mX8_80 (c_X8_takeSign l C hC S n hn _ (fcR_b hb ha i) _) dX8_readFace_36 (by first | assumption | rfl) (by decide) (Nat.le_of_ble_eq_true rfl) ?_
            refine j_pop hE dX8_readFace_39 rfl ?_
            refine j_iload2 hE dX8_readFace_40 ?_
            refine j_aload0 hE dX8_readFace_41 ?_
            refine j_iconst hE (nI 0) dX8_readFace_42 kiconst_0 ?_
            refine j_iconst hE (nI 1) dX8_readFace_43 kiconst_1 ?_
            refine j_aload1 hE dX8_readFace_44 ?_
            refine j_geti hE fX8_116 dX8_readFace_45 (by first | assumption | rfl) ?_
            refine j_ishl hE dX8_readFace_48 ?_
            refine j_iconst hE (nI 1) dX8_readFace_49 kiconst_1 ?_
            refine j_isub hE dX8_readFace_50 ?_
            refine j_V2i hE mX8_76 (c_X8_takeNumber l C hC S n hn _ (by first | exact qB_sign (fcR_b hb ha i) (by decide) | exact fcR_b hb ha i) _ _) dX8_readFace_51 (by first | assumption | rfl) (by decide) (Nat.le_of_ble_eq_true rfl) ?_
            refine j_iload3 hE dX8_readFace_54 ?_
            refine j_aload1 hE dX8_readFace_55 ?_
            refine j_geti hE fX8_116 dX8_readFace_56 (by first | assumption | rfl) ?_
            refine j_imul hE dX8_readFace_59 ?_
            refine j_ishl hE dX8_readFace_60 ?_
            refine j_ior hE dX8_readFace_61 ?_
            refine j_istore2 hE dX8_readFace_62 rfl ?_
            refine j_iinc3 hE (nI (i + 1)) dX8_readFace_63 (nI_inc _) rfl ?_
            refine j_goto hE 21 dX8_readFace_66 (by decide) ?_
            exact j_cast (by first | (rw [fcR, if_neg c30, RS_o p1]; done) | (rw [fcR, if_neg c30, RS_o p1]; rfl) | (rw [fcR, if_pos c30, RS_o p1]; done) | (rw [fcR, if_pos c30, RS_o p1]; rfl)) (by first | (rw [fcR, if_neg c30, RS_o p1]; done) | (rw [fcR, if_pos c30, RS_o p1]; done)) (ih (i + 1) (by omega) (by omega))
    exact L21 (rwN S pp + 1) 0 (by omega) (by omega)
  · skip
    rw [RS_o p1] at c6
    refine j_iconst hE (nI 1) dX8_readFace_9 kiconst_1 ?_
    refine j_goto hE 14 dX8_readFace_10 (by decide) ?_
    refine j_V1v hE mX8_72 (c_X8_takeWord l C hC S n hn q hb _ (fcB S pp) (by simp [fcB, c6]; try decide)) dX8_readFace_14 (by first | assumption | rfl) (by decide) (Nat.le_of_ble_eq_true rfl) ?_
    refine j_iconst hE (nI 0) dX8_readFace_17 kiconst_0 ?_
    refine j_istore2 hE dX8_readFace_18 rfl ?_
    refine j_iconst hE (nI 0) dX8_readFace_19 kiconst_0 ?_
    refine j_istore3 hE dX8_readFace_20 rfl ?_
    have L21 : ∀ (fu : Nat) (i : Nat), rwN S pp - i < fu → (i ≤ rwN S pp) → J C E (RS S n (fcR S pp n q i).2) 21 [some (.ref (C.2.1 1)), some (.ref (C.2.1 pp)), some (.int (fcR S pp n q i).1), some (.int (nI i))] [] := by
      intro fu
      induction fu with
      | zero => intro i hm; omega
      | succ fu ih =>
        intro i hm hi
        refine j_iload3 hE dX8_readFace_21 ?_
        refine j_aload1 hE dX8_readFace_22 ?_
        refine j_geti hE fX8_50 dX8_readFace_23 (by first | assumption | rfl) ?_
        refine j_icmpge hE 69 dX8_readFace_26 (by decide) (fun c26 => ?_) (fun c26 => ?_)
        · skip
          rw [RS_o p1] at c26
          have c26 : rwN S pp ≤ i := (clamp_le (by have : i ≤ rwN S pp := hi; unfold rwN at this; omega)).mp c26
          have hii : i = rwN S pp := by omega
          subst hii
          refine j_aload0 hE dX8_readFace_69 ?_
          refine j_bipush hE (nI 59) dX8_readFace_70 kbipush_59 ?_
          refine j_V1i hE mX8_80 (c_X8_takeSign l C hC S n hn _ (fcR_b hb ha _) _) dX8_readFace_72 (by first | assumption | rfl) (by decide) (Nat.le_of_ble_eq_true rfl) ?_
          first | refine j_ifeqP hE 83 dX8_readFace_75 (by decide) (fun c75 => ?_) (fun c75 => ?_) | refine j_ifeq hE 83 dX8_readFace_75 (by decide) (fun c75 => ?_) (fun c75 => ?_)
          · skip
            have c75 : ¬ okSign (S 2) n (fcR S pp n q (rwN S pp)).2 (nI 59) := c75
            exact j_vret hE hR dX8_readFace_83 (by first
                | (rw [fcS, if_neg c75]; rfl)
                | (rw [fcS, if_pos c75]; exact RS_addF p1 (by omega)))
          · skip
            have c75 : okSign (S 2) n (fcR S pp n q (rwN S pp)).2 (nI 59) := c75
            refine j_aload1 hE dX8_readFace_78 ?_
            refine j_iload2 hE dX8_readFace_79 ?_
            refine j_V1v hE mX8_119 (c_X7_addFace l C hC _ pp h0 h1 h2 h3 h4 _) dX8_readFace_80 (by first | assumption | rfl) (by decide) (Nat.le_of_ble_eq_true rfl) ?_
            exact j_vret hE hR dX8_readFace_83 (by first
                | (rw [fcS, if_neg c75]; rfl)
                | (rw [fcS, if_pos c75]; exact RS_addF p1 (by omega)))
        · skip
          rw [RS_o p1] at c26
          have c26 : i < rwN S pp := Nat.lt_of_not_le (fun z => c26 ((clamp_le (by have : i ≤ rwN S pp := hi; unfold rwN at this; omega)).mpr z))
          refine j_iload3 hE dX8_readFace_29 ?_
          refine j_ifle hE 40 dX8_readFace_30 (by decide) (fun c30 => ?_) (fun c30 => ?_)
          · skip
            have c30 : i = 0 := by
              rcases Nat.eq_zero_or_pos i with z | z
              · exact z
              · exact absurd c30 (nI_nle z (by have : i ≤ rwN S pp := hi; unfold rwN at this; omega))
            refine j_iload2 hE dX8_readFace_40 ?_
            refine j_aload0 hE dX8_readFace_41 ?_
            refine j_iconst hE (nI 0) dX8_readFace_42 kiconst_0 ?_
            refine j_iconst hE (nI 1) dX8_readFace_43 kiconst_1 ?_
            refine j_aload1 hE dX8_readFace_44 ?_
            refine j_geti hE fX8_116 dX8_readFace_45 (by first | assumption | rfl) ?_
            refine j_ishl hE dX8_readFace_48 ?_
            refine j_iconst hE (nI 1) dX8_readFace_49 kiconst_1 ?_
            refine j_isub hE dX8_readFace_50 ?_
            refine j_V2i hE mX8_76 (c_X8_takeNumber l C hC S n hn _ (by first | exact qB_sign (fcR_b hb ha i) (by decide) | exact fcR_b hb ha i) _ _) dX8_readFace_51 (by first | assumption | rfl) (by decide) (Nat.le_of_ble_eq_true rfl) ?_
            refine j_iload3 hE dX8_readFace_54 ?_
            refine j_aload1 hE dX8_readFace_55 ?_
            refine j_geti hE fX8_116 dX8_readFace_56 (by first | assumption | rfl) ?_
            refine j_imul hE dX8_readFace_59 ?_
            refine j_ishl hE dX8_readFace_60 ?_
            refine j_ior hE dX8_readFace_61 ?_
            refine j_istore2 hE dX8_readFace_62 rfl ?_
            refine j_iinc3 hE (nI (i + 1)) dX8_readFace_63 (nI_inc _) rfl ?_
            refine j_goto hE 21 dX8_readFace_66 (by decide) ?_
            exact j_cast (by first | (rw [fcR, if_neg c30, RS_o p1]; done) | (rw [fcR, if_neg c30, RS_o p1]; rfl) | (rw [fcR, if_pos c30, RS_o p1]; done) | (rw [fcR, if_pos c30, RS_o p1]; rfl)) (by first | (rw [fcR, if_neg c30, RS_o p1]; done) | (rw [fcR, if_pos c30, RS_o p1]; done)) (ih (i + 1) (by omega) (by omega))
          · skip
            have c30 : ¬ i = 0 := fun z => by subst z; exact c30 (by decide)
            refine j_aload0 hE dX8_readFace_33 ?_
            refine j_bipush hE (nI 44) dX8_readFace_34 kbipush_44 ?_
            refine j_V1i hE mX8_80 (c_X8_takeSign l C hC S n hn _ (fcR_b hb ha i) _) dX8_readFace_36 (by first | assumption | rfl) (by decide) (Nat.le_of_ble_eq_true rfl) ?_
            refine j_pop hE dX8_readFace_39 rfl ?_
            refine j_iload2 hE dX8_readFace_40 ?_
            refine j_aload0 hE dX8_readFace_41 ?_
            refine j_iconst hE (nI 0) dX8_readFace_42 kiconst_0 ?_
            refine j_iconst hE (nI 1) dX8_readFace_43 kiconst_1 ?_
            refine j_aload1 hE dX8_readFace_44 ?_
            refine j_geti hE fX8_116 dX8_readFace_45 (by first | assumption | rfl) ?_
            refine j_ishl hE dX8_readFace_48 ?_
            refine j_iconst hE (nI 1) dX8_readFace_49 kiconst_1 ?_
            refine j_isub hE dX8_readFace_50 ?_
            refine j_V2i hE mX8_76 (c_X8_takeNumber l C hC S n hn _ (by first | exact qB_sign (fcR_b hb ha i) (by decide) | exact fcR_b hb ha i) _ _) dX8_readFace_51 (by first | assumption | rfl) (by decide) (Nat.le_of_ble_eq_true rfl) ?_
            refine j_iload3 hE dX8_readFace_54 ?_
            refine j_aload1 hE dX8_readFace_55 ?_
            refine j_geti hE fX8_116 dX8_readFace_56 (by first | assumption | rfl) ?_
            refine j_imul hE dX8_readFace_59 ?_
            refine j_ishl hE dX8_readFace_60 ?_
            refine j_ior hE dX8_readFace_61 ?_
            refine j_istore2 hE dX8_readFace_62 rfl ?_
            refine j_iinc3 hE (nI (i + 1)) dX8_readFace_63 (nI_inc _) rfl ?_
            refine j_goto hE 21 dX8_readFace_66 (by decide) ?_
            exact j_cast (by first | (rw [fcR, if_neg c30, RS_o p1]; done) | (rw [fcR, if_neg c30, RS_o p1]; rfl) | (rw [fcR, if_pos c30, RS_o p1]; done) | (rw [fcR, if_pos c30, RS_o p1]; rfl)) (by first | (rw [fcR, if_neg c30, RS_o p1]; done) | (rw [fcR, if_pos c30, RS_o p1]; done)) (ih (i + 1) (by omega) (by omega))
    exact L21 (rwN S pp + 1) 0 (by omega) (by omega)

def wdB (q : Qr) : Bool := !decide (q.2.2.2.2 = 0)
def wdQ2 (t : Nat → Int32) (n : Nat) (q : Qr) : Qr := tnQ t n (qWord q (wdB q)) (nI 0) (nI 2)
def wdQ3 (t : Nat → Int32) (n : Nat) (q : Qr) : Qr := qSign t n (wdQ2 t n q) (nI 59)
def wdS (S : Sto) (pp n : Nat) (q : Qr) : Sto := if okSign (S 2) n (wdQ2 (S 2) n q) (nI 59) then up2 S pp 7 (nI (tnM (S 2) n (qWord q (wdB q)))) else S
def wdQ (t : Nat → Int32) (n : Nat) (q : Qr) : Qr := if okSign t n (wdQ2 t n q) (nI 59) then ((wdQ3 t n q).1, (wdQ3 t n q).2.1, (wdQ3 t n q).2.2.1, (wdQ3 t n q).2.2.2.1, nI 1) else wdQ3 t n q
set_option maxHeartbeats 4000000 in
set_option maxRecDepth 100000 in
theorem c_X8_readWind (l : Launch) (C : JC) (hC : JInj C) (S : Sto) (pp : Nat) (h0 : jsh pp = (0, 6)) (h1 : jsh (pp + 1) = (1, 4)) (h2 : jsh (pp + 2) = (1, 6)) (h3 : jsh (pp + 3) = (1, 6)) (h4 : jsh (pp + 4) = (1, 5)) (n : Nat) (hn : n ≤ 240) (q : Qr) (hb : qBound n q) (ha : q.2.2.1 < n) : Con l C yX8_readWind cX8_readWind 3 none 4 [.ref (C.2.1 1), .ref (C.2.1 pp)] (RS S n q) none (RS (wdS S pp n q) n (wdQ (S 2) n q)) := by
  have p1 : pp ≠ 1 := ne_sh h0 (show jsh 1 = (0, 7) from rfl) (by decide)
  have p11 : pp + 1 ≠ 1 := fun z => absurd (ne_sh h0 (show jsh 0 = (0, 9) from rfl) (by decide)) (by omega)
  have p2 : pp ≠ 2 := ne_sh h0 (show jsh 2 = (1, 240) from rfl) (by decide)
  refine con_of RX8 1 [some (.ref (C.2.1 1)), some (.ref (C.2.1 pp)), none] (by decide) rfl hC (Nat.le_of_ble_eq_true rfl) rfl (Nat.le_of_ble_eq_true rfl) (fun E hE hR => ?_)
  refine j_aload0 hE dX8_readWind_0 ?_
  refine j_aload0 hE dX8_readWind_1 ?_
  refine j_geti hE fX8_33 dX8_readWind_2 (by first | assumption | rfl) ?_
  refine j_V1v hE mX8_72 (c_X8_takeWord l C hC S n hn q hb _ (wdB q) (by rw [RS_6]; rfl)) dX8_readWind_5 (by first | assumption | rfl) (by decide) (Nat.le_of_ble_eq_true rfl) ?_
  refine j_aload0 hE dX8_readWind_8 ?_
  refine j_iconst hE (nI 0) dX8_readWind_9 kiconst_0 ?_
  refine j_iconst hE (nI 2) dX8_readWind_10 kiconst_2 ?_
  refine j_V2i hE mX8_76 (c_X8_takeNumber l C hC S n hn _ (qB_word hb ha) _ _) dX8_readWind_11 (by first | assumption | rfl) (by decide) (Nat.le_of_ble_eq_true rfl) ?_
  refine j_istore2 hE dX8_readWind_14 rfl ?_
  refine j_aload0 hE dX8_readWind_15 ?_
  refine j_bipush hE (nI 59) dX8_readWind_16 kbipush_59 ?_
  refine j_V1i hE mX8_80 (c_X8_takeSign l C hC S n hn _ (qB_num (qB_word hb ha)) _) dX8_readWind_18 (by first | assumption | rfl) (by decide) (Nat.le_of_ble_eq_true rfl) ?_
  first | refine j_ifeqP hE 34 dX8_readWind_21 (by decide) (fun c21 => ?_) (fun c21 => ?_) | refine j_ifeq hE 34 dX8_readWind_21 (by decide) (fun c21 => ?_) (fun c21 => ?_)
  · skip
    have c21 : ¬ okSign (S 2) n (wdQ2 (S 2) n q) (nI 59) := c21
    exact j_vret hE hR dX8_readWind_34 (by first
        | (rw [wdS, wdQ, if_neg c21, if_neg c21]; rfl)
        | (rw [wdS, wdQ, if_pos c21, if_pos c21, RS_up p1, RS_u6]; rfl))
  · skip
    have c21 : okSign (S 2) n (wdQ2 (S 2) n q) (nI 59) := c21
    refine j_aload1 hE dX8_readWind_24 ?_
    refine j_iload2 hE dX8_readWind_25 ?_
    refine j_puti hE pX8_122 dX8_readWind_26 (by first | assumption | rfl) rfl rfl ?_
    refine j_aload0 hE dX8_readWind_29 ?_
    refine j_iconst hE (nI 1) dX8_readWind_30 kiconst_1 ?_
    refine j_puti hE pX8_33 dX8_readWind_31 (by first | assumption | rfl) rfl rfl ?_
    exact j_vret hE hR dX8_readWind_34 (by first
        | (rw [wdS, wdQ, if_neg c21, if_neg c21]; rfl)
        | (rw [wdS, wdQ, if_pos c21, if_pos c21, RS_up p1, RS_u6]; rfl))

theorem RS_u1 {S : Sto} {n m : Nat} {q : Qr} : up2 (RS S n q) 1 1 (nI m) = RS S m q := by
  unfold RS; rw [up2_upA]; congr 1; funext j; by_cases h : j = 1 <;> simp [upd, qrow, h]
set_option maxHeartbeats 4000000 in
set_option maxRecDepth 100000 in
theorem c_X8_add (l : Launch) (C : JC) (hC : JInj C) (S : Sto) (n : Nat) (hn : n ≤ 240) (q : Qr) (x : Int32) : Con l C yX8_add cX8_add 2 (some .int) 2 [.ref (C.2.1 1), .int x] (RS S n q) (some (.int (if n < 240 then nI (n + 1) else -1000000004))) (if n < 240 then RS (up2 S 2 n x) (n + 1) q else RS S n q) := by
  refine con_of RX8 0 [some (.ref (C.2.1 1)), some (.int x)] (by decide) rfl hC (Nat.le_of_ble_eq_true rfl) rfl (Nat.le_of_ble_eq_true rfl) (fun E hE hR => ?_)
  refine j_aload0 hE dX8_add_0 ?_
  refine j_geti hE fX8_19 dX8_add_1 (by first | assumption | rfl) ?_
  refine j_aload0 hE dX8_add_4 ?_
  refine j_getr hE fX8_9 dX8_add_5 (by first | assumption | rfl) (rf_o (by first | assumption | rfl) (by decide)) ?_
  refine j_alen hE dX8_add_8 (nI 240) (by first | assumption | rfl) rfl ?_
  refine j_icmplt hE 15 dX8_add_9 (by decide) (fun c9 => ?_) (fun c9 => ?_)
  · skip
    rw [RS_1] at c9
    have c9 : n < 240 := (nI_ltI (by omega) (by decide)).mp c9
    have hput : putS 240 (RS S n q) 2 (RS S n q 1 1) x = RS (up2 S 2 n x) n q := by
      rw [RS_1, putN c9 (by decide), RS_up (by decide)]
    refine j_aload0 hE dX8_add_15 ?_
    refine j_getr hE fX8_9 dX8_add_16 (by first | assumption | rfl) (rf_o (by first | assumption | rfl) (by decide)) ?_
    refine j_aload0 hE dX8_add_19 ?_
    refine j_geti hE fX8_19 dX8_add_20 (by first | assumption | rfl) ?_
    refine j_iload1 hE dX8_add_23 ?_
    refine j_SN3v hE mX8_23 (c_X10_put l C hC _ 2 240 rfl (by decide) _ _) dX8_add_24 (by decide) (Nat.le_of_ble_eq_true rfl) ?_
    refine j_eqS hput ?_
    refine j_aload0 hE dX8_add_27 ?_
    refine j_dup hE dX8_add_28 rfl ?_
    refine j_geti hE fX8_19 dX8_add_29 (by first | assumption | rfl) ?_
    refine j_iconst hE (nI 1) dX8_add_32 kiconst_1 ?_
    refine j_iadd hE dX8_add_33 ?_
    refine j_puti hE pX8_19 dX8_add_34 (by first | assumption | rfl) rfl rfl ?_
    refine j_eqS (S' := RS (up2 S 2 n x) (n + 1) q) (by rw [RS_1, nI_add]; exact RS_u1) ?_
    refine j_aload0 hE dX8_add_37 ?_
    refine j_geti hE fX8_19 dX8_add_38 (by first | assumption | rfl) ?_
    exact j_iret hE hR dX8_add_41 (by rw [if_pos c9, RS_1]) (by rw [if_pos c9])
  · skip
    rw [RS_1] at c9
    have c9 : ¬ n < 240 := fun z => c9 (nI_lt z (by decide))
    refine j_ldc hE dX8_add_12 kX8_22 ?_
    exact j_iret hE hR dX8_add_14 (by rw [if_neg c9]) (by rw [if_neg c9])

/-- a clause: the plan and the numbers behind it -/
def clR (S : Sto) (pp n nc : Nat) (q0 : Qr) : Sto × Qr :=
  let q := qSkip (S 2) n q0
  let w := cur (S 2) n (skp (S 2) n q0.2.2.1)
  if S pp 4 = 0 ∧ ¬ w = nI 119 then (S, qFail q 1 (nI q.2.2.1))
  else if w = nI 99 then (ckS S pp n nc q, qSign (S 2) n (ckQ4 S pp n nc q) (nI 59))
  else if w = nI 102 then (fcS S pp n q, fcQ S pp n q)
  else if w = nI 108 then (lkS' S pp n q, qSign (S 2) n (lkQ2 S pp n q) (nI 59))
  else if w = nI 110 then (wdS S pp n q, wdQ (S 2) n q)
  else if w = nI 119 then (szS S pp n q, szQ (S 2) n q (szB S pp))
  else (S, qFail q 1 (nI q.2.2.1))
theorem look5 {x : Int32} (h1 : ¬ x = nI 99) (h2 : ¬ x = nI 102) (h3 : ¬ x = nI 108) (h4 : ¬ x = nI 110) (h5 : ¬ x = nI 119) : Op.lookupswitch.offset [((99 : Int), (67 : Int)), (102, 75), (108, 59), (110, 83), (119, 51)] 91 x.toInt = 91 := by
  have f : ∀ k : Nat, k < 1000 → ¬ x = nI k → ¬ (k : Int) = x.toInt := fun k hk h q => h (i32_of q.symm)
  rw [Op.lookupswitch.offset_cons, if_neg (show ¬ (99 : Int) = x.toInt from f 99 (by decide) h1), Op.lookupswitch.offset_cons, if_neg (show ¬ (102 : Int) = x.toInt from f 102 (by decide) h2), Op.lookupswitch.offset_cons, if_neg (show ¬ (108 : Int) = x.toInt from f 108 (by decide) h3), Op.lookupswitch.offset_cons, if_neg (show ¬ (110 : Int) = x.toInt from f 110 (by decide) h4), Op.lookupswitch.offset_cons, if_neg (show ¬ (119 : Int) = x.toInt from f 119 (by decide) h5), Op.lookupswitch.offset_nil]
set_option maxHeartbeats 4000000 in
set_option maxRecDepth 100000 in
theorem c_X8_readClause (l : Launch) (C : JC) (hC : JInj C) (S : Sto) (pp : Nat) (h0 : jsh pp = (0, 6)) (h1 : jsh (pp + 1) = (1, 4)) (h2 : jsh (pp + 2) = (1, 6)) (h3 : jsh (pp + 3) = (1, 6)) (h4 : jsh (pp + 4) = (1, 5)) (n : Nat) (hn : n ≤ 240) (q : Qr) (hb : qBound n q) (nc : Nat) (hnc : S pp 9 = nI nc) (hle : nc ≤ 6) : Con l C yX8_readClause cX8_readClause 3 none 5 [.ref (C.2.1 1), .ref (C.2.1 pp)] (RS S n q) none (RS (clR S pp n nc q).1 n (clR S pp n nc q).2) := by
  have p1 : pp ≠ 1 := ne_sh h0 (show jsh 1 = (0, 7) from rfl) (by decide)
  have p11 : pp + 1 ≠ 1 := fun z => absurd (ne_sh h0 (show jsh 0 = (0, 9) from rfl) (by decide)) (by omega)
  have p2 : pp ≠ 2 := ne_sh h0 (show jsh 2 = (1, 240) from rfl) (by decide)
  refine con_of RX8 1 [some (.ref (C.2.1 1)), some (.ref (C.2.1 pp)), none] (by decide) rfl hC (Nat.le_of_ble_eq_true rfl) rfl (Nat.le_of_ble_eq_true rfl) (fun E hE hR => ?_)
  refine j_aload0 hE dX8_readClause_0 ?_
  refine j_V0i hE mX8_42 (c_X8_peek l C hC S n hn q hb) dX8_readClause_1 (by first | assumption | rfl) (by decide) (Nat.le_of_ble_eq_true rfl) ?_
  refine j_istore2 hE dX8_readClause_4 rfl ?_
  refine j_aload1 hE dX8_readClause_5 ?_
  refine j_geti hE fX8_50 dX8_readClause_6 (by first | assumption | rfl) ?_
  refine j_ifne hE 28 dX8_readClause_9 (by decide) (fun c9 => ?_) (fun c9 => ?_)
  · skip
    rw [RS_o p1] at c9
    refine j_iload2 hE dX8_readClause_28 ?_
    by_cases w99 : (cur (S 2) n (skp (S 2) n q.2.2.1)) = nI 99
    · refine j_lookC hE 96 99 dX8_readClause_29 w99 rfl rfl (by decide) ?_
      refine j_aload0 hE dX8_readClause_96 ?_
      refine j_aload1 hE dX8_readClause_97 ?_
      refine j_V1v hE mX8_63 (c_X8_readCrack l C hC S pp h0 h1 h2 h3 h4 n hn _ (qB_skip hb) (cur_lt w99 (by decide)) nc hnc hle) dX8_readClause_98 (by first | assumption | rfl) (by decide) (Nat.le_of_ble_eq_true rfl) ?_
      refine j_goto hE 129 dX8_readClause_101 (by decide) ?_
      exact j_vret hE hR dX8_readClause_129 (by
          have hz : ¬ (S pp 4 = 0 ∧ ¬ cur (S 2) n (skp (S 2) n q.2.2.1) = nI 119) := by
            first | exact fun z => c9 z.1 | exact fun z => z.2 c15
          first
          | (rw [clR, if_neg hz, if_pos w99]; done)
          | (rw [clR, if_neg hz, if_neg w99, if_pos w102]; done)
          | (rw [clR, if_neg hz, if_neg w99, if_neg w102, if_pos w108]; done)
          | (rw [clR, if_neg hz, if_neg w99, if_neg w102, if_neg w108, if_pos w110]; done)
          | (rw [clR, if_neg hz, if_neg w99, if_neg w102, if_neg w108, if_neg w110, if_pos w119]; done)
          | (rw [clR, if_neg hz, if_neg w99, if_neg w102, if_neg w108, if_neg w110, if_neg w119, RS_4]; done))
    by_cases w102 : (cur (S 2) n (skp (S 2) n q.2.2.1)) = nI 102
    · refine j_lookC hE 104 102 dX8_readClause_29 w102 rfl rfl (by decide) ?_
      refine j_aload0 hE dX8_readClause_104 ?_
      refine j_aload1 hE dX8_readClause_105 ?_
      refine j_V1v hE mX8_66 (c_X8_readFace l C hC S pp h0 h1 h2 h3 h4 n hn _ (qB_skip hb) (cur_lt w102 (by decide))) dX8_readClause_106 (by first | assumption | rfl) (by decide) (Nat.le_of_ble_eq_true rfl) ?_
      refine j_goto hE 129 dX8_readClause_109 (by decide) ?_
      exact j_vret hE hR dX8_readClause_129 (by
          have hz : ¬ (S pp 4 = 0 ∧ ¬ cur (S 2) n (skp (S 2) n q.2.2.1) = nI 119) := by
            first | exact fun z => c9 z.1 | exact fun z => z.2 c15
          first
          | (rw [clR, if_neg hz, if_pos w99]; done)
          | (rw [clR, if_neg hz, if_neg w99, if_pos w102]; done)
          | (rw [clR, if_neg hz, if_neg w99, if_neg w102, if_pos w108]; done)
          | (rw [clR, if_neg hz, if_neg w99, if_neg w102, if_neg w108, if_pos w110]; done)
          | (rw [clR, if_neg hz, if_neg w99, if_neg w102, if_neg w108, if_neg w110, if_pos w119]; done)
          | (rw [clR, if_neg hz, if_neg w99, if_neg w102, if_neg w108, if_neg w110, if_neg w119, RS_4]; done))
    by_cases w108 : (cur (S 2) n (skp (S 2) n q.2.2.1)) = nI 108
    · refine j_lookC hE 88 108 dX8_readClause_29 w108 rfl rfl (by decide) ?_
      refine j_aload0 hE dX8_readClause_88 ?_
      refine j_aload1 hE dX8_readClause_89 ?_
      refine j_V1v hE mX8_60 (c_X8_readLeak l C hC S pp h0 h1 h2 h3 h4 n hn _ (qB_skip hb) (cur_lt w108 (by decide))) dX8_readClause_90 (by first | assumption | rfl) (by decide) (Nat.le_of_ble_eq_true rfl) ?_
      refine j_goto hE 129 dX8_readClause_93 (by decide) ?_
      exact j_vret hE hR dX8_readClause_129 (by
          have hz : ¬ (S pp 4 = 0 ∧ ¬ cur (S 2) n (skp (S 2) n q.2.2.1) = nI 119) := by
            first | exact fun z => c9 z.1 | exact fun z => z.2 c15
          first
          | (rw [clR, if_neg hz, if_pos w99]; done)
          | (rw [clR, if_neg hz, if_neg w99, if_pos w102]; done)
          | (rw [clR, if_neg hz, if_neg w99, if_neg w102, if_pos w108]; done)
          | (rw [clR, if_neg hz, if_neg w99, if_neg w102, if_neg w108, if_pos w110]; done)
          | (rw [clR, if_neg hz, if_neg w99, if_neg w102, if_neg w108, if_neg w110, if_pos w119]; done)
          | (rw [clR, if_neg hz, if_neg w99, if_neg w102, if_neg w108, if_neg w110, if_neg w119, RS_4]; done))
    by_cases w110 : (cur (S 2) n (skp (S 2) n q.2.2.1)) = nI 110
    · refine j_lookC hE 112 110 dX8_readClause_29 w110 rfl rfl (by decide) ?_
      refine j_aload0 hE dX8_readClause_112 ?_
      refine j_aload1 hE dX8_readClause_113 ?_
      refine j_V1v hE mX8_69 (c_X8_readWind l C hC S pp h0 h1 h2 h3 h4 n hn _ (qB_skip hb) (cur_lt w110 (by decide))) dX8_readClause_114 (by first | assumption | rfl) (by decide) (Nat.le_of_ble_eq_true rfl) ?_
      refine j_goto hE 129 dX8_readClause_117 (by decide) ?_
      exact j_vret hE hR dX8_readClause_129 (by
          have hz : ¬ (S pp 4 = 0 ∧ ¬ cur (S 2) n (skp (S 2) n q.2.2.1) = nI 119) := by
            first | exact fun z => c9 z.1 | exact fun z => z.2 c15
          first
          | (rw [clR, if_neg hz, if_pos w99]; done)
          | (rw [clR, if_neg hz, if_neg w99, if_pos w102]; done)
          | (rw [clR, if_neg hz, if_neg w99, if_neg w102, if_pos w108]; done)
          | (rw [clR, if_neg hz, if_neg w99, if_neg w102, if_neg w108, if_pos w110]; done)
          | (rw [clR, if_neg hz, if_neg w99, if_neg w102, if_neg w108, if_neg w110, if_pos w119]; done)
          | (rw [clR, if_neg hz, if_neg w99, if_neg w102, if_neg w108, if_neg w110, if_neg w119, RS_4]; done))
    by_cases w119 : (cur (S 2) n (skp (S 2) n q.2.2.1)) = nI 119
    · refine j_lookC hE 80 119 dX8_readClause_29 w119 rfl rfl (by decide) ?_
      refine j_aload0 hE dX8_readClause_80 ?_
      refine j_aload1 hE dX8_readClause_81 ?_
      refine j_V1v hE mX8_57 (c_X8_readSize l C hC S pp h0 h1 h2 h3 h4 n hn _ (qB_skip hb) (cur_lt w119 (by decide))) dX8_readClause_82 (by first | assumption | rfl) (by decide) (Nat.le_of_ble_eq_true rfl) ?_
      refine j_goto hE 129 dX8_readClause_85 (by decide) ?_
      exact j_vret hE hR dX8_readClause_129 (by
          have hz : ¬ (S pp 4 = 0 ∧ ¬ cur (S 2) n (skp (S 2) n q.2.2.1) = nI 119) := by
            first | exact fun z => c9 z.1 | exact fun z => z.2 c15
          first
          | (rw [clR, if_neg hz, if_pos w99]; done)
          | (rw [clR, if_neg hz, if_neg w99, if_pos w102]; done)
          | (rw [clR, if_neg hz, if_neg w99, if_neg w102, if_pos w108]; done)
          | (rw [clR, if_neg hz, if_neg w99, if_neg w102, if_neg w108, if_pos w110]; done)
          | (rw [clR, if_neg hz, if_neg w99, if_neg w102, if_neg w108, if_neg w110, if_pos w119]; done)
          | (rw [clR, if_neg hz, if_neg w99, if_neg w102, if_neg w108, if_neg w110, if_neg w119, RS_4]; done))
    refine j_look hE 120 dX8_readClause_29 rfl (look5 w99 w102 w108 w110 w119) (by decide) ?_
    refine j_aload0 hE dX8_readClause_120 ?_
    refine j_iconst hE (nI 1) dX8_readClause_121 kiconst_1 ?_
    refine j_aload0 hE dX8_readClause_122 ?_
    refine j_geti hE fX8_27 dX8_readClause_123 (by first | assumption | rfl) ?_
    refine j_V2v hE mX8_53 (c_X8_fail l C hC S n hn _ (qB_skip hb) 1 _) dX8_readClause_126 (by first | assumption | rfl) (by decide) (Nat.le_of_ble_eq_true rfl) ?_
    exact j_vret hE hR dX8_readClause_129 (by
        have hz : ¬ (S pp 4 = 0 ∧ ¬ cur (S 2) n (skp (S 2) n q.2.2.1) = nI 119) := by
          first | exact fun z => c9 z.1 | exact fun z => z.2 c15
        first
        | (rw [clR, if_neg hz, if_pos w99]; done)
        | (rw [clR, if_neg hz, if_neg w99, if_pos w102]; done)
        | (rw [clR, if_neg hz, if_neg w99, if_neg w102, if_pos w108]; done)
        | (rw [clR, if_neg hz, if_neg w99, if_neg w102, if_neg w108, if_pos w110]; done)
        | (rw [clR, if_neg hz, if_neg w99, if_neg w102, if_neg w108, if_neg w110, if_pos w119]; done)
        | (rw [clR, if_neg hz, if_neg w99, if_neg w102, if_neg w108, if_neg w110, if_neg w119, RS_4]; done))
  · skip
    rw [RS_o p1] at c9
    refine j_iload2 hE dX8_readClause_12 ?_
    refine j_bipush hE (nI 119) dX8_readClause_13 kbipush_119 ?_
    refine j_icmpeq hE 28 dX8_readClause_15 (by decide) (fun c15 => ?_) (fun c15 => ?_)
    · skip
      refine j_iload2 hE dX8_readClause_28 ?_
      by_cases w99 : (cur (S 2) n (skp (S 2) n q.2.2.1)) = nI 99
      · refine j_lookC hE 96 99 dX8_readClause_29 w99 rfl rfl (by decide) ?_
        refine j_aload0 hE dX8_readClause_96 ?_
        refine j_aload1 hE dX8_readClause_97 ?_
        refine j_V1v hE mX8_63 (c_X8_readCrack l C hC S pp h0 h1 h2 h3 h4 n hn _ (qB_skip hb) (cur_lt w99 (by decide)) nc hnc hle) dX8_readClause_98 (by first | assumption | rfl) (by decide) (Nat.le_of_ble_eq_true rfl) ?_
        refine j_goto hE 129 dX8_readClause_101 (by decide) ?_
        exact j_vret hE hR dX8_readClause_129 (by
            have hz : ¬ (S pp 4 = 0 ∧ ¬ cur (S 2) n (skp (S 2) n q.2.2.1) = nI 119) := by
              first | exact fun z => c9 z.1 | exact fun z => z.2 c15
            first
            | (rw [clR, if_neg hz, if_pos w99]; done)
            | (rw [clR, if_neg hz, if_neg w99, if_pos w102]; done)
            | (rw [clR, if_neg hz, if_neg w99, if_neg w102, if_pos w108]; done)
            | (rw [clR, if_neg hz, if_neg w99, if_neg w102, if_neg w108, if_pos w110]; done)
            | (rw [clR, if_neg hz, if_neg w99, if_neg w102, if_neg w108, if_neg w110, if_pos w119]; done)
            | (rw [clR, if_neg hz, if_neg w99, if_neg w102, if_neg w108, if_neg w110, if_neg w119, RS_4]; done))
      by_cases w102 : (cur (S 2) n (skp (S 2) n q.2.2.1)) = nI 102
      · refine j_lookC hE 104 102 dX8_readClause_29 w102 rfl rfl (by decide) ?_
        refine j_aload0 hE dX8_readClause_104 ?_
        refine j_aload1 hE dX8_readClause_105 ?_
        refine j_V1v hE mX8_66 (c_X8_readFace l C hC S pp h0 h1 h2 h3 h4 n hn _ (qB_skip hb) (cur_lt w102 (by decide))) dX8_readClause_106 (by first | assumption | rfl) (by decide) (Nat.le_of_ble_eq_true rfl) ?_
        refine j_goto hE 129 dX8_readClause_109 (by decide) ?_
        exact j_vret hE hR dX8_readClause_129 (by
            have hz : ¬ (S pp 4 = 0 ∧ ¬ cur (S 2) n (skp (S 2) n q.2.2.1) = nI 119) := by
              first | exact fun z => c9 z.1 | exact fun z => z.2 c15
            first
            | (rw [clR, if_neg hz, if_pos w99]; done)
            | (rw [clR, if_neg hz, if_neg w99, if_pos w102]; done)
            | (rw [clR, if_neg hz, if_neg w99, if_neg w102, if_pos w108]; done)
            | (rw [clR, if_neg hz, if_neg w99, if_neg w102, if_neg w108, if_pos w110]; done)
            | (rw [clR, if_neg hz, if_neg w99, if_neg w102, if_neg w108, if_neg w110, if_pos w119]; done)
            | (rw [clR, if_neg hz, if_neg w99, if_neg w102, if_neg w108, if_neg w110, if_neg w119, RS_4]; done))
      by_cases w108 : (cur (S 2) n (skp (S 2) n q.2.2.1)) = nI 108
      · refine j_lookC hE 88 108 dX8_readClause_29 w108 rfl rfl (by decide) ?_
        refine j_aload0 hE dX8_readClause_88 ?_
        refine j_aload1 hE dX8_readClause_89 ?_
        refine j_V1v hE mX8_60 (c_X8_readLeak l C hC S pp h0 h1 h2 h3 h4 n hn _ (qB_skip hb) (cur_lt w108 (by decide))) dX8_readClause_90 (by first | assumption | rfl) (by decide) (Nat.le_of_ble_eq_true rfl) ?_
        refine j_goto hE 129 dX8_readClause_93 (by decide) ?_
        exact j_vret hE hR dX8_readClause_129 (by
            have hz : ¬ (S pp 4 = 0 ∧ ¬ cur (S 2) n (skp (S 2) n q.2.2.1) = nI 119) := by
              first | exact fun z => c9 z.1 | exact fun z => z.2 c15
            first
            | (rw [clR, if_neg hz, if_pos w99]; done)
            | (rw [clR, if_neg hz, if_neg w99, if_pos w102]; done)
            | (rw [clR, if_neg hz, if_neg w99, if_neg w102, if_pos w108]; done)
            | (rw [clR, if_neg hz, if_neg w99, if_neg w102, if_neg w108, if_pos w110]; done)
            | (rw [clR, if_neg hz, if_neg w99, if_neg w102, if_neg w108, if_neg w110, if_pos w119]; done)
            | (rw [clR, if_neg hz, if_neg w99, if_neg w102, if_neg w108, if_neg w110, if_neg w119, RS_4]; done))
      by_cases w110 : (cur (S 2) n (skp (S 2) n q.2.2.1)) = nI 110
      · refine j_lookC hE 112 110 dX8_readClause_29 w110 rfl rfl (by decide) ?_
        refine j_aload0 hE dX8_readClause_112 ?_
        refine j_aload1 hE dX8_readClause_113 ?_
        refine j_V1v hE mX8_69 (c_X8_readWind l C hC S pp h0 h1 h2 h3 h4 n hn _ (qB_skip hb) (cur_lt w110 (by decide))) dX8_readClause_114 (by first | assumption | rfl) (by decide) (Nat.le_of_ble_eq_true rfl) ?_
        refine j_goto hE 129 dX8_readClause_117 (by decide) ?_
        exact j_vret hE hR dX8_readClause_129 (by
            have hz : ¬ (S pp 4 = 0 ∧ ¬ cur (S 2) n (skp (S 2) n q.2.2.1) = nI 119) := by
              first | exact fun z => c9 z.1 | exact fun z => z.2 c15
            first
            | (rw [clR, if_neg hz, if_pos w99]; done)
            | (rw [clR, if_neg hz, if_neg w99, if_pos w102]; done)
            | (rw [clR, if_neg hz, if_neg w99, if_neg w102, if_pos w108]; done)
            | (rw [clR, if_neg hz, if_neg w99, if_neg w102, if_neg w108, if_pos w110]; done)
            | (rw [clR, if_neg hz, if_neg w99, if_neg w102, if_neg w108, if_neg w110, if_pos w119]; done)
            | (rw [clR, if_neg hz, if_neg w99, if_neg w102, if_neg w108, if_neg w110, if_neg w119, RS_4]; done))
      by_cases w119 : (cur (S 2) n (skp (S 2) n q.2.2.1)) = nI 119
      · refine j_lookC hE 80 119 dX8_readClause_29 w119 rfl rfl (by decide) ?_
        refine j_aload0 hE dX8_readClause_80 ?_
        refine j_aload1 hE dX8_readClause_81 ?_
        refine j_V1v hE mX8_57 (c_X8_readSize l C hC S pp h0 h1 h2 h3 h4 n hn _ (qB_skip hb) (cur_lt w119 (by decide))) dX8_readClause_82 (by first | assumption | rfl) (by decide) (Nat.le_of_ble_eq_true rfl) ?_
        refine j_goto hE 129 dX8_readClause_85 (by decide) ?_
        exact j_vret hE hR dX8_readClause_129 (by
            have hz : ¬ (S pp 4 = 0 ∧ ¬ cur (S 2) n (skp (S 2) n q.2.2.1) = nI 119) := by
              first | exact fun z => c9 z.1 | exact fun z => z.2 c15
            first
            | (rw [clR, if_neg hz, if_pos w99]; done)
            | (rw [clR, if_neg hz, if_neg w99, if_pos w102]; done)
            | (rw [clR, if_neg hz, if_neg w99, if_neg w102, if_pos w108]; done)
            | (rw [clR, if_neg hz, if_neg w99, if_neg w102, if_neg w108, if_pos w110]; done)
            | (rw [clR, if_neg hz, if_neg w99, if_neg w102, if_neg w108, if_neg w110, if_pos w119]; done)
            | (rw [clR, if_neg hz, if_neg w99, if_neg w102, if_neg w108, if_neg w110, if_neg w119, RS_4]; done))
      refine j_look hE 120 dX8_readClause_29 rfl (look5 w99 w102 w108 w110 w119) (by decide) ?_
      refine j_aload0 hE dX8_readClause_120 ?_
      refine j_iconst hE (nI 1) dX8_readClause_121 kiconst_1 ?_
      refine j_aload0 hE dX8_readClause_122 ?_
      refine j_geti hE fX8_27 dX8_readClause_123 (by first | assumption | rfl) ?_
      refine j_V2v hE mX8_53 (c_X8_fail l C hC S n hn _ (qB_skip hb) 1 _) dX8_readClause_126 (by first | assumption | rfl) (by decide) (Nat.le_of_ble_eq_true rfl) ?_
      exact j_vret hE hR dX8_readClause_129 (by
          have hz : ¬ (S pp 4 = 0 ∧ ¬ cur (S 2) n (skp (S 2) n q.2.2.1) = nI 119) := by
            first | exact fun z => c9 z.1 | exact fun z => z.2 c15
          first
          | (rw [clR, if_neg hz, if_pos w99]; done)
          | (rw [clR, if_neg hz, if_neg w99, if_pos w102]; done)
          | (rw [clR, if_neg hz, if_neg w99, if_neg w102, if_pos w108]; done)
          | (rw [clR, if_neg hz, if_neg w99, if_neg w102, if_neg w108, if_pos w110]; done)
          | (rw [clR, if_neg hz, if_neg w99, if_neg w102, if_neg w108, if_neg w110, if_pos w119]; done)
          | (rw [clR, if_neg hz, if_neg w99, if_neg w102, if_neg w108, if_neg w110, if_neg w119, RS_4]; done))
    · skip
      refine j_aload0 hE dX8_readClause_18 ?_
      refine j_iconst hE (nI 1) dX8_readClause_19 kiconst_1 ?_
      refine j_aload0 hE dX8_readClause_20 ?_
      refine j_geti hE fX8_27 dX8_readClause_21 (by first | assumption | rfl) ?_
      refine j_V2v hE mX8_53 (c_X8_fail l C hC S n hn _ (qB_skip hb) 1 _) dX8_readClause_24 (by first | assumption | rfl) (by decide) (Nat.le_of_ble_eq_true rfl) ?_
      exact j_vret hE hR dX8_readClause_27 (by rw [clR, if_pos ⟨c9, c15⟩, RS_4])

