theorem ne_sh {i j : Nat} {a b : Nat × Nat} (h : jsh i = a) (h2 : jsh j = b) (hab : a ≠ b) : i ≠ j := fun q => hab (by rw [← h, ← h2, q])
def putF (n : Nat) (f : Nat → Int32) (i v : Int32) : Nat → Int32 := if i < 0 ∨ nI n ≤ i then f else upd f i.toNatClampNeg v
theorem putS_eq (n : Nat) (S : Sto) (a : Nat) (i v : Int32) : putS n S a i v = upA S a (putF n (S a) i v) := by
  unfold putS putF
  by_cases h : i < 0 ∨ nI n ≤ i
  · rw [if_pos h, if_pos h, upA_self]
  · rw [if_neg h, if_neg h]; rfl
abbrev Pr2 : Type := (Nat → Int32) × (Nat → Int32)
def st2 (S : Sto) (dd ff : Nat) (p : Pr2) : Sto := upA (upA S (dd + 1) p.1) (ff + 2) p.2
theorem st2_w {S : Sto} {dd ff : Nat} {p : Pr2} (h : dd + 1 ≠ ff + 2) : st2 S dd ff p (dd + 1) = p.1 := by
  unfold st2; rw [upA_ne _ _ h, upA_same]
theorem st2_c {S : Sto} {dd ff : Nat} {p : Pr2} : st2 S dd ff p (ff + 2) = p.2 := upA_same _ _ _
theorem st2_o {S : Sto} {dd ff : Nat} {p : Pr2} {i : Nat} (h1 : i ≠ dd + 1) (h2 : i ≠ ff + 2) : st2 S dd ff p i = S i := by
  unfold st2; rw [upA_ne _ _ h2, upA_ne _ _ h1]
theorem st2_self (S : Sto) (dd ff : Nat) : st2 S dd ff (S (dd + 1), S (ff + 2)) = S := by
  unfold st2
  funext j
  unfold upA
  by_cases h : j = ff + 2
  · subst h; simp
  · by_cases q : j = dd + 1
    · subst q; rw [if_neg h, if_pos rfl]
    · simp [h, q]
theorem st2_upw {S : Sto} {dd ff : Nat} {p : Pr2} {f : Nat → Int32} (h : dd + 1 ≠ ff + 2) : upA (st2 S dd ff p) (dd + 1) f = st2 S dd ff (f, p.2) := by
  unfold st2
  funext j
  unfold upA
  by_cases q : j = dd + 1
  · subst q; rw [if_pos rfl, if_neg h, if_pos rfl]
  · simp [q]
theorem st2_upc {S : Sto} {dd ff : Nat} {p : Pr2} {f : Nat → Int32} : upA (st2 S dd ff p) (ff + 2) f = st2 S dd ff (p.1, f) := by
  unfold st2
  rw [upA_upA]
/-- one gives to the other, if it has some left -/
def g2F (p : Pr2) (a b : Int32) : Pr2 := if b = -1 then p else if pickF 25 p.1 a ≤ 0 then p else (putF 25 p.1 a (pickF 25 p.1 a - nI 1), putF 25 p.2 b (pickF 25 p.2 b + nI 1))
theorem g2S {S : Sto} {dd ff : Nat} {p : Pr2} (h : dd + 1 ≠ ff + 2) (a b : Int32) : putS 25 (putS 25 (st2 S dd ff p) (dd + 1) a (pickF 25 (st2 S dd ff p (dd + 1)) a - nI 1)) (ff + 2) b (pickF 25 (putS 25 (st2 S dd ff p) (dd + 1) a (pickF 25 (st2 S dd ff p (dd + 1)) a - nI 1) (ff + 2)) b + nI 1) = st2 S dd ff (putF 25 p.1 a (pickF 25 p.1 a - nI 1), putF 25 p.2 b (pickF 25 p.2 b + nI 1)) := by
  rw [putS_eq 25 (st2 S dd ff p), st2_w h, st2_upw h, putS_eq, st2_c, st2_upc]
theorem plCells_c {S T : Sto} {pp : Nat} (h : T pp = S pp) : plCells T pp = plCells S pp := by unfold plCells; rw [h]
theorem plCol_c {S T : Sto} {pp : Nat} (h : T pp = S pp) (x : Int32) : plCol T pp x = plCol S pp x := by unfold plCol; rw [h]
theorem plBelow_c {S T : Sto} {pp : Nat} (h : T pp = S pp) (x : Int32) : plBelow T pp x = plBelow S pp x := by unfold plBelow; rw [plCells_c h, h]
theorem plBeside_c {S T : Sto} {pp : Nat} (h : T pp = S pp) (x w : Int32) : plBeside T pp x w = plBeside S pp x w := by unfold plBeside; rw [plCol_c h, h]
set_option maxHeartbeats 4000000 in
set_option maxRecDepth 100000 in
theorem c_X3_give (l : Launch) (C : JC) (hC : JInj C) (S : Sto) (dd : Nat) (g0 : jsh dd = (0, 1)) (g1 : jsh (dd + 1) = (1, 25)) (g2 : jsh (dd + 2) = (1, 4)) (ff : Nat) (f0 : jsh ff = (0, 3)) (f1 : jsh (ff + 1) = (1, 25)) (f2 : jsh (ff + 2) = (1, 25)) (p : Pr2) (a b : Int32) : Con l C yX3_give cX3_give 4 none 2 [.ref (C.2.1 ff), .ref (C.2.1 dd), .int a, .int b] (st2 S dd ff p) none (st2 S dd ff (g2F p a b)) := by
  have n6 : dd ≠ ff + 1 := ne_sh g0 f1 (by decide)
  have n0 : dd + 1 ≠ ff + 2 := by omega
  refine con_of RX3 0 [some (.ref (C.2.1 ff)), some (.ref (C.2.1 dd)), some (.int a), some (.int b)] (by decide) rfl hC (Nat.le_of_ble_eq_true rfl) rfl (Nat.le_of_ble_eq_true rfl) (fun E hE hR => ?_)
  refine j_iload3 hE dX3_give_0 ?_
  refine j_iconst hE (-1) dX3_give_1 kiconst_m1 ?_
  refine j_icmpeq hE 52 dX3_give_2 (by decide) (fun c2 => ?_) (fun c2 => ?_)
  · skip
    exact j_vret hE hR dX3_give_52 (by first
        | (rw [g2F, if_pos c2]; done)
        | (rw [g2F, if_neg c2, if_pos c13]; done)
        | (rw [g2F, if_neg c2, if_neg c13]; exact g2S n0 a b))
  · skip
    refine j_aload1 hE dX3_give_5 ?_
    refine j_getr hE fX3_37 dX3_give_6 (by first | assumption | rfl) (rf_o (by first | assumption | rfl) (by decide)) ?_
    refine j_iload2 hE dX3_give_9 ?_
    refine j_SN2i hE mX3_33 (c_X10_pick l C hC _ (dd + 1) 25 g1 (by decide) a) dX3_give_10 (by decide) (Nat.le_of_ble_eq_true rfl) ?_
    refine j_ifle hE 52 dX3_give_13 (by decide) (fun c13 => ?_) (fun c13 => ?_)
    · skip
      rw [st2_w n0] at c13
      exact j_vret hE hR dX3_give_52 (by first
          | (rw [g2F, if_pos c2]; done)
          | (rw [g2F, if_neg c2, if_pos c13]; done)
          | (rw [g2F, if_neg c2, if_neg c13]; exact g2S n0 a b))
    · skip
      rw [st2_w n0] at c13
      refine j_aload1 hE dX3_give_16 ?_
      refine j_getr hE fX3_37 dX3_give_17 (by first | assumption | rfl) (rf_o (by first | assumption | rfl) (by decide)) ?_
      refine j_iload2 hE dX3_give_20 ?_
      refine j_aload1 hE dX3_give_21 ?_
      refine j_getr hE fX3_37 dX3_give_22 (by first | assumption | rfl) (rf_o (by first | assumption | rfl) (by decide)) ?_
      refine j_iload2 hE dX3_give_25 ?_
      refine j_SN2i hE mX3_33 (c_X10_pick l C hC _ (dd + 1) 25 g1 (by decide) a) dX3_give_26 (by decide) (Nat.le_of_ble_eq_true rfl) ?_
      refine j_iconst hE (nI 1) dX3_give_29 kiconst_1 ?_
      refine j_isub hE dX3_give_30 ?_
      refine j_SN3v hE mX3_46 (c_X10_put l C hC _ (dd + 1) 25 g1 (by decide) a _) dX3_give_31 (by decide) (Nat.le_of_ble_eq_true rfl) ?_
      refine j_aload0 hE dX3_give_34 ?_
      refine j_getr hE fX3_15 dX3_give_35 (by first | assumption | rfl) (rf_o (by first | assumption | rfl) (by decide)) ?_
      refine j_iload3 hE dX3_give_38 ?_
      refine j_aload0 hE dX3_give_39 ?_
      refine j_getr hE fX3_15 dX3_give_40 (by first | assumption | rfl) (rf_o (by first | assumption | rfl) (by decide)) ?_
      refine j_iload3 hE dX3_give_43 ?_
      refine j_SN2i hE mX3_33 (c_X10_pick l C hC _ (ff + 2) 25 f2 (by decide) b) dX3_give_44 (by decide) (Nat.le_of_ble_eq_true rfl) ?_
      refine j_iconst hE (nI 1) dX3_give_47 kiconst_1 ?_
      refine j_iadd hE dX3_give_48 ?_
      refine j_SN3v hE mX3_46 (c_X10_put l C hC _ (ff + 2) 25 f2 (by decide) b _) dX3_give_49 (by decide) (Nat.le_of_ble_eq_true rfl) ?_
      exact j_vret hE hR dX3_give_52 (by first
          | (rw [g2F, if_pos c2]; done)
          | (rw [g2F, if_neg c2, if_pos c13]; done)
          | (rw [g2F, if_neg c2, if_neg c13]; exact g2S n0 a b))

def rdF (S : Sto) (pp : Nat) (wd : Int32) (ah : Nat → Int32) (p : Pr2) : Nat → Pr2
  | 0 => p
  | i + 1 =>
    let p1 := if ah i < nI 2 then rdF S pp wd ah p i else g2F (rdF S pp wd ah p i) (nI i) (plBelow S pp (nI i))
    if ah i < nI 4 then p1 else g2F p1 (nI i) (plBeside S pp (nI i) wd)
set_option maxHeartbeats 4000000 in
set_option maxRecDepth 100000 in
theorem c_X3_runDownAndByWind (l : Launch) (C : JC) (hC : JInj C) (S : Sto) (pp : Nat) (h0 : jsh pp = (0, 6)) (h1 : jsh (pp + 1) = (1, 4)) (h2 : jsh (pp + 2) = (1, 6)) (h3 : jsh (pp + 3) = (1, 6)) (h4 : jsh (pp + 4) = (1, 5)) (dd : Nat) (g0 : jsh dd = (0, 1)) (g1 : jsh (dd + 1) = (1, 25)) (g2 : jsh (dd + 2) = (1, 4)) (ff : Nat) (f0 : jsh ff = (0, 3)) (f1 : jsh (ff + 1) = (1, 25)) (f2 : jsh (ff + 2) = (1, 25))  : Con l C yX3_runDownAndByWind cX3_runDownAndByWind 4 none 3 [.ref (C.2.1 ff), .ref (C.2.1 pp), .ref (C.2.1 dd)] S none (st2 S dd ff (rdF S pp (S dd 2) (S (ff + 1)) (S (dd + 1), S (ff + 2)) 25)) := by
  have n1 : pp ≠ dd + 1 := ne_sh h0 g1 (by decide)
  have n2 : pp ≠ ff + 2 := ne_sh h0 f2 (by decide)
  have n3 : pp ≠ ff + 1 := ne_sh h0 f1 (by decide)
  have n4 : dd ≠ ff := ne_sh g0 f0 (by decide)
  have n5 : dd ≠ ff + 1 := ne_sh g0 f1 (by decide)
  have n6 : dd ≠ ff + 2 := ne_sh g0 f2 (by decide)
  have n7 : ff ≠ dd + 1 := ne_sh f0 g1 (by decide)
  have n0 : dd + 1 ≠ ff + 2 := by omega
  have m1 : ff + 1 ≠ dd + 1 := by omega
  have m2 : ff + 1 ≠ ff + 2 := by omega
  have m3 : dd ≠ dd + 1 := by omega
  refine con_of RX3 1 [some (.ref (C.2.1 ff)), some (.ref (C.2.1 pp)), some (.ref (C.2.1 dd)), none] (by decide) rfl hC (Nat.le_of_ble_eq_true rfl) rfl (Nat.le_of_ble_eq_true rfl) (fun E hE hR => ?_)
  refine j_iconst hE (nI 0) dX3_runDownAndByWind_0 kiconst_0 ?_
  refine j_istore3 hE dX3_runDownAndByWind_1 rfl ?_
  have L2 : ∀ (fu : Nat) (i : Nat), 25 - i < fu → (i ≤ 25) → J C E (st2 S dd ff (rdF S pp (S dd 2) (S (ff + 1)) (S (dd + 1), S (ff + 2)) i)) 2 [some (.ref (C.2.1 ff)), some (.ref (C.2.1 pp)), some (.ref (C.2.1 dd)), some (.int (nI i))] [] := by
    intro fu
    induction fu with
    | zero => intro i hm; omega
    | succ fu ih =>
      intro i hm hi
      refine j_iload3 hE dX3_runDownAndByWind_2 ?_
      refine j_aload0 hE dX3_runDownAndByWind_3 ?_
      refine j_getr hE fX3_9 dX3_runDownAndByWind_4 (by first | assumption | rfl) (rf_o (by first | assumption | rfl) (by decide)) ?_
      refine j_alen hE dX3_runDownAndByWind_7 (nI 25) (by first | assumption | rfl) rfl ?_
      refine j_icmpge hE 63 dX3_runDownAndByWind_8 (by decide) (fun c8 => ?_) (fun c8 => ?_)
      · skip
        have c8 := (nI_leI (by omega) (by omega)).mp c8
        have hii : i = 25 := by omega
        subst hii
        exact j_vret hE hR dX3_runDownAndByWind_63 (rfl)
      · skip
        have c8 : i < 25 := Nat.lt_of_not_le (fun q => c8 (nI_le q (by omega)))
        refine j_aload0 hE dX3_runDownAndByWind_11 ?_
        refine j_getr hE fX3_9 dX3_runDownAndByWind_12 (by first | assumption | rfl) (rf_o (by first | assumption | rfl) (by decide)) ?_
        refine j_iload3 hE dX3_runDownAndByWind_15 ?_
        refine j_ialdN hE dX3_runDownAndByWind_16 (by first | assumption | rfl) (by omega) (by decide) ?_
        refine j_iconst hE (nI 2) dX3_runDownAndByWind_17 kiconst_2 ?_
        refine j_icmplt hE 32 dX3_runDownAndByWind_18 (by decide) (fun c18 => ?_) (fun c18 => ?_)
        · skip
          rw [st2_o m1 m2] at c18
          refine j_aload0 hE dX3_runDownAndByWind_32 ?_
          refine j_getr hE fX3_9 dX3_runDownAndByWind_33 (by first | assumption | rfl) (rf_o (by first | assumption | rfl) (by decide)) ?_
          refine j_iload3 hE dX3_runDownAndByWind_36 ?_
          refine j_ialdN hE dX3_runDownAndByWind_37 (by first | assumption | rfl) (by omega) (by decide) ?_
          refine j_iconst hE (nI 4) dX3_runDownAndByWind_38 kiconst_4 ?_
          refine j_icmplt hE 57 dX3_runDownAndByWind_39 (by decide) (fun c39 => ?_) (fun c39 => ?_)
          · skip
            rw [st2_o m1 m2] at c39
            refine j_iinc3 hE (nI (i + 1)) dX3_runDownAndByWind_57 (nI_inc _) rfl ?_
            refine j_goto hE 2 dX3_runDownAndByWind_60 (by decide) ?_
            exact j_cast (by rw [rdF]; first | (rw [if_pos c18, if_pos c39]; done) | (rw [if_pos c18, if_neg c39]; done) | (rw [if_neg c18, if_pos c39]; done) | (rw [if_neg c18, if_neg c39]; done)) rfl (ih (i + 1) (by omega) (by omega))
          · skip
            rw [st2_o m1 m2] at c39
            refine j_aload0 hE dX3_runDownAndByWind_42 ?_
            refine j_aload2 hE dX3_runDownAndByWind_43 ?_
            refine j_iload3 hE dX3_runDownAndByWind_44 ?_
            refine j_aload1 hE dX3_runDownAndByWind_45 ?_
            refine j_iload3 hE dX3_runDownAndByWind_46 ?_
            refine j_aload2 hE dX3_runDownAndByWind_47 ?_
            refine j_geti hE fX3_78 dX3_runDownAndByWind_48 (by first | assumption | rfl) ?_
            refine j_V2i hE mX3_81 (c_X7_beside l C hC _ pp h0 _ _) dX3_runDownAndByWind_51 (by first | assumption | rfl) (by decide) (Nat.le_of_ble_eq_true rfl) ?_
            refine j_top ((plBeside_c (st2_o n1 n2) _ _).trans (by rw [st2_o m3 n6])) ?_
            refine j_V3v hE mX3_74 (c_X3_give l C hC S dd g0 g1 g2 ff f0 f1 f2 _ _ _) dX3_runDownAndByWind_54 (by first | assumption | rfl) (by decide) (Nat.le_of_ble_eq_true rfl) ?_
            refine j_iinc3 hE (nI (i + 1)) dX3_runDownAndByWind_57 (nI_inc _) rfl ?_
            refine j_goto hE 2 dX3_runDownAndByWind_60 (by decide) ?_
            exact j_cast (by rw [rdF]; first | (rw [if_pos c18, if_pos c39]; done) | (rw [if_pos c18, if_neg c39]; done) | (rw [if_neg c18, if_pos c39]; done) | (rw [if_neg c18, if_neg c39]; done)) rfl (ih (i + 1) (by omega) (by omega))
        · skip
          rw [st2_o m1 m2] at c18
          refine j_aload0 hE dX3_runDownAndByWind_21 ?_
          refine j_aload2 hE dX3_runDownAndByWind_22 ?_
          refine j_iload3 hE dX3_runDownAndByWind_23 ?_
          refine j_aload1 hE dX3_runDownAndByWind_24 ?_
          refine j_iload3 hE dX3_runDownAndByWind_25 ?_
          refine j_V1i hE mX3_70 (c_X7_below l C hC _ pp h0 _) dX3_runDownAndByWind_26 (by first | assumption | rfl) (by decide) (Nat.le_of_ble_eq_true rfl) ?_
          refine j_top (plBelow_c (st2_o n1 n2) _) ?_
          refine j_V3v hE mX3_74 (c_X3_give l C hC S dd g0 g1 g2 ff f0 f1 f2 _ _ _) dX3_runDownAndByWind_29 (by first | assumption | rfl) (by decide) (Nat.le_of_ble_eq_true rfl) ?_
          refine j_aload0 hE dX3_runDownAndByWind_32 ?_
          refine j_getr hE fX3_9 dX3_runDownAndByWind_33 (by first | assumption | rfl) (rf_o (by first | assumption | rfl) (by decide)) ?_
          refine j_iload3 hE dX3_runDownAndByWind_36 ?_
          refine j_ialdN hE dX3_runDownAndByWind_37 (by first | assumption | rfl) (by omega) (by decide) ?_
          refine j_iconst hE (nI 4) dX3_runDownAndByWind_38 kiconst_4 ?_
          refine j_icmplt hE 57 dX3_runDownAndByWind_39 (by decide) (fun c39 => ?_) (fun c39 => ?_)
          · skip
            rw [st2_o m1 m2] at c39
            refine j_iinc3 hE (nI (i + 1)) dX3_runDownAndByWind_57 (nI_inc _) rfl ?_
            refine j_goto hE 2 dX3_runDownAndByWind_60 (by decide) ?_
            exact j_cast (by rw [rdF]; first | (rw [if_pos c18, if_pos c39]; done) | (rw [if_pos c18, if_neg c39]; done) | (rw [if_neg c18, if_pos c39]; done) | (rw [if_neg c18, if_neg c39]; done)) rfl (ih (i + 1) (by omega) (by omega))
          · skip
            rw [st2_o m1 m2] at c39
            refine j_aload0 hE dX3_runDownAndByWind_42 ?_
            refine j_aload2 hE dX3_runDownAndByWind_43 ?_
            refine j_iload3 hE dX3_runDownAndByWind_44 ?_
            refine j_aload1 hE dX3_runDownAndByWind_45 ?_
            refine j_iload3 hE dX3_runDownAndByWind_46 ?_
            refine j_aload2 hE dX3_runDownAndByWind_47 ?_
            refine j_geti hE fX3_78 dX3_runDownAndByWind_48 (by first | assumption | rfl) ?_
            refine j_V2i hE mX3_81 (c_X7_beside l C hC _ pp h0 _ _) dX3_runDownAndByWind_51 (by first | assumption | rfl) (by decide) (Nat.le_of_ble_eq_true rfl) ?_
            refine j_top ((plBeside_c (st2_o n1 n2) _ _).trans (by rw [st2_o m3 n6])) ?_
            refine j_V3v hE mX3_74 (c_X3_give l C hC S dd g0 g1 g2 ff f0 f1 f2 _ _ _) dX3_runDownAndByWind_54 (by first | assumption | rfl) (by decide) (Nat.le_of_ble_eq_true rfl) ?_
            refine j_iinc3 hE (nI (i + 1)) dX3_runDownAndByWind_57 (nI_inc _) rfl ?_
            refine j_goto hE 2 dX3_runDownAndByWind_60 (by decide) ?_
            exact j_cast (by rw [rdF]; first | (rw [if_pos c18, if_pos c39]; done) | (rw [if_pos c18, if_neg c39]; done) | (rw [if_neg c18, if_pos c39]; done) | (rw [if_neg c18, if_neg c39]; done)) rfl (ih (i + 1) (by omega) (by omega))
  exact j_cast (st2_self S dd ff).symm rfl (L2 26 0 (by omega) (by omega))

def rcF (S : Sto) (pp : Nat) (fl : Int32) (ah : Nat → Int32) (p : Pr2) : Nat → Pr2
  | 0 => p
  | c + 1 =>
    let q := rcF S pp fl ah p c
    let a := pickF 6 (S (pp + 2)) (nI c)
    let b := pickF 6 (S (pp + 3)) (nI c)
    if bitP fl (nI c) then q else if pickF 25 ah a - pickF 25 ah b < nI 2 then (if -2 < pickF 25 ah a - pickF 25 ah b then q else g2F q b a) else g2F q a b
set_option maxHeartbeats 4000000 in
set_option maxRecDepth 100000 in
theorem c_X3_runByCracks (l : Launch) (C : JC) (hC : JInj C) (S : Sto) (pp : Nat) (h0 : jsh pp = (0, 6)) (h1 : jsh (pp + 1) = (1, 4)) (h2 : jsh (pp + 2) = (1, 6)) (h3 : jsh (pp + 3) = (1, 6)) (h4 : jsh (pp + 4) = (1, 5)) (dd : Nat) (g0 : jsh dd = (0, 1)) (g1 : jsh (dd + 1) = (1, 25)) (g2 : jsh (dd + 2) = (1, 4)) (ff : Nat) (f0 : jsh ff = (0, 3)) (f1 : jsh (ff + 1) = (1, 25)) (f2 : jsh (ff + 2) = (1, 25)) (nc : Nat) (hnc : S pp 9 = nI nc) (hle : nc ≤ 6) : Con l C yX3_runByCracks cX3_runByCracks 7 none 3 [.ref (C.2.1 ff), .ref (C.2.1 pp), .ref (C.2.1 dd)] S none (st2 S dd ff (rcF S pp (S dd 3) (S (ff + 1)) (S (dd + 1), S (ff + 2)) nc)) := by
  have n1 : pp ≠ dd + 1 := ne_sh h0 g1 (by decide)
  have n2 : pp ≠ ff + 2 := ne_sh h0 f2 (by decide)
  have n3 : pp ≠ ff + 1 := ne_sh h0 f1 (by decide)
  have n4 : dd ≠ ff := ne_sh g0 f0 (by decide)
  have n5 : dd ≠ ff + 1 := ne_sh g0 f1 (by decide)
  have n6 : dd ≠ ff + 2 := ne_sh g0 f2 (by decide)
  have n7 : ff ≠ dd + 1 := ne_sh f0 g1 (by decide)
  have n0 : dd + 1 ≠ ff + 2 := by omega
  have m1 : ff + 1 ≠ dd + 1 := by omega
  have m2 : ff + 1 ≠ ff + 2 := by omega
  have m3 : dd ≠ dd + 1 := by omega
  have m4 : pp + 2 ≠ dd + 1 := ne_sh h2 g1 (by decide)
  have m5 : pp + 2 ≠ ff + 2 := ne_sh h2 f2 (by decide)
  have m6 : pp + 3 ≠ dd + 1 := ne_sh h3 g1 (by decide)
  have m7 : pp + 3 ≠ ff + 2 := ne_sh h3 f2 (by decide)
  refine con_of RX3 4 [some (.ref (C.2.1 ff)), some (.ref (C.2.1 pp)), some (.ref (C.2.1 dd)), none, none, none, none] (by decide) rfl hC (Nat.le_of_ble_eq_true rfl) rfl (Nat.le_of_ble_eq_true rfl) (fun E hE hR => ?_)
  refine j_iconst hE (nI 0) dX3_runByCracks_0 kiconst_0 ?_
  refine j_istore3 hE dX3_runByCracks_1 rfl ?_
  have L2 : ∀ (fu : Nat) (i : Nat) (x4 x5 x6 : Option Value), nc - i < fu → (i ≤ nc) → J C E (st2 S dd ff (rcF S pp (S dd 3) (S (ff + 1)) (S (dd + 1), S (ff + 2)) i)) 2 [some (.ref (C.2.1 ff)), some (.ref (C.2.1 pp)), some (.ref (C.2.1 dd)), some (.int (nI i)), x4, x5, x6] [] := by
    intro fu
    induction fu with
    | zero => intro i x4 x5 x6 hm; omega
    | succ fu ih =>
      intro i x4 x5 x6 hm hi
      refine j_iload3 hE dX3_runByCracks_2 ?_
      refine j_aload1 hE dX3_runByCracks_3 ?_
      refine j_geti hE fX3_84 dX3_runByCracks_4 (by first | assumption | rfl) ?_
      refine j_icmpge hE 102 dX3_runByCracks_7 (by decide) (fun c7 => ?_) (fun c7 => ?_)
      · skip
        rw [st2_o n1 n2] at c7
        rw [hnc] at c7
        have c7 := (nI_leI (by omega) (by omega)).mp c7
        have hii : i = nc := by omega
        subst hii
        exact j_vret hE hR dX3_runByCracks_102 (rfl)
      · skip
        rw [st2_o n1 n2] at c7
        rw [hnc] at c7
        have c7 : i < nc := Nat.lt_of_not_le (fun q => c7 (nI_le q (by omega)))
        refine j_aload2 hE dX3_runByCracks_10 ?_
        refine j_iload3 hE dX3_runByCracks_11 ?_
        refine j_V1i hE mX3_87 (c_X1_isFilled l C hC _ dd g0 g1 g2 _) dX3_runByCracks_12 (by first | assumption | rfl) (by decide) (Nat.le_of_ble_eq_true rfl) ?_
        first | refine j_ifeqP hE 21 dX3_runByCracks_15 (by decide) (fun c15 => ?_) (fun c15 => ?_) | refine j_ifeq hE 21 dX3_runByCracks_15 (by decide) (fun c15 => ?_) (fun c15 => ?_)
        · skip
          rw [st2_o m3 n6] at c15
          refine j_aload1 hE dX3_runByCracks_21 ?_
          refine j_getr hE fX3_91 dX3_runByCracks_22 (by first | assumption | rfl) (rf_o (by first | assumption | rfl) (by decide)) ?_
          refine j_iload3 hE dX3_runByCracks_25 ?_
          refine j_SN2i hE mX3_33 (c_X10_pick l C hC _ (pp + 2) 6 h2 (by decide) _) dX3_runByCracks_26 (by decide) (Nat.le_of_ble_eq_true rfl) ?_
          refine j_top (by rw [st2_o m4 m5]) ?_
          refine j_istore4 hE dX3_runByCracks_29 rfl ?_
          refine j_aload1 hE dX3_runByCracks_31 ?_
          refine j_getr hE fX3_94 dX3_runByCracks_32 (by first | assumption | rfl) (rf_o (by first | assumption | rfl) (by decide)) ?_
          refine j_iload3 hE dX3_runByCracks_35 ?_
          refine j_SN2i hE mX3_33 (c_X10_pick l C hC _ (pp + 3) 6 h3 (by decide) _) dX3_runByCracks_36 (by decide) (Nat.le_of_ble_eq_true rfl) ?_
          refine j_top (by rw [st2_o m6 m7]) ?_
          refine j_istore5 hE dX3_runByCracks_39 rfl ?_
          refine j_aload0 hE dX3_runByCracks_41 ?_
          refine j_getr hE fX3_9 dX3_runByCracks_42 (by first | assumption | rfl) (rf_o (by first | assumption | rfl) (by decide)) ?_
          refine j_iload4 hE dX3_runByCracks_45 ?_
          refine j_SN2i hE mX3_33 (c_X10_pick l C hC _ (ff + 1) 25 f1 (by decide) _) dX3_runByCracks_47 (by decide) (Nat.le_of_ble_eq_true rfl) ?_
          refine j_top (by rw [st2_o m1 m2]) ?_
          refine j_aload0 hE dX3_runByCracks_50 ?_
          refine j_getr hE fX3_9 dX3_runByCracks_51 (by first | assumption | rfl) (rf_o (by first | assumption | rfl) (by decide)) ?_
          refine j_iload5 hE dX3_runByCracks_54 ?_
          refine j_SN2i hE mX3_33 (c_X10_pick l C hC _ (ff + 1) 25 f1 (by decide) _) dX3_runByCracks_56 (by decide) (Nat.le_of_ble_eq_true rfl) ?_
          refine j_top (by rw [st2_o m1 m2]) ?_
          refine j_isub hE dX3_runByCracks_59 ?_
          refine j_istore6 hE dX3_runByCracks_60 rfl ?_
          refine j_iload6 hE dX3_runByCracks_62 ?_
          refine j_iconst hE (nI 2) dX3_runByCracks_64 kiconst_2 ?_
          refine j_icmplt hE 80 dX3_runByCracks_65 (by decide) (fun c65 => ?_) (fun c65 => ?_)
          · skip
            refine j_iload6 hE dX3_runByCracks_80 ?_
            refine j_bipush hE (-2) dX3_runByCracks_82 kbipush_m2 ?_
            refine j_icmpgt hE 96 dX3_runByCracks_84 (by decide) (fun c84 => ?_) (fun c84 => ?_)
            · skip
              refine j_iinc3 hE (nI (i + 1)) dX3_runByCracks_96 (nI_inc _) rfl ?_
              refine j_goto hE 2 dX3_runByCracks_99 (by decide) ?_
              exact j_cast (by rw [rcF]; first | (rw [if_pos c15]; done) | (rw [if_neg c15, if_neg c65]; done) | (rw [if_neg c15, if_pos c65, if_pos c84]; done) | (rw [if_neg c15, if_pos c65, if_neg c84]; done)) rfl (ih (i + 1) _ _ _ (by omega) (by omega))
            · skip
              refine j_aload0 hE dX3_runByCracks_87 ?_
              refine j_aload2 hE dX3_runByCracks_88 ?_
              refine j_iload5 hE dX3_runByCracks_89 ?_
              refine j_iload4 hE dX3_runByCracks_91 ?_
              refine j_V3v hE mX3_74 (c_X3_give l C hC S dd g0 g1 g2 ff f0 f1 f2 _ _ _) dX3_runByCracks_93 (by first | assumption | rfl) (by decide) (Nat.le_of_ble_eq_true rfl) ?_
              refine j_iinc3 hE (nI (i + 1)) dX3_runByCracks_96 (nI_inc _) rfl ?_
              refine j_goto hE 2 dX3_runByCracks_99 (by decide) ?_
              exact j_cast (by rw [rcF]; first | (rw [if_pos c15]; done) | (rw [if_neg c15, if_neg c65]; done) | (rw [if_neg c15, if_pos c65, if_pos c84]; done) | (rw [if_neg c15, if_pos c65, if_neg c84]; done)) rfl (ih (i + 1) _ _ _ (by omega) (by omega))
          · skip
            refine j_aload0 hE dX3_runByCracks_68 ?_
            refine j_aload2 hE dX3_runByCracks_69 ?_
            refine j_iload4 hE dX3_runByCracks_70 ?_
            refine j_iload5 hE dX3_runByCracks_72 ?_
            refine j_V3v hE mX3_74 (c_X3_give l C hC S dd g0 g1 g2 ff f0 f1 f2 _ _ _) dX3_runByCracks_74 (by first | assumption | rfl) (by decide) (Nat.le_of_ble_eq_true rfl) ?_
            refine j_goto hE 96 dX3_runByCracks_77 (by decide) ?_
            refine j_iinc3 hE (nI (i + 1)) dX3_runByCracks_96 (nI_inc _) rfl ?_
            refine j_goto hE 2 dX3_runByCracks_99 (by decide) ?_
            exact j_cast (by rw [rcF]; first | (rw [if_pos c15]; done) | (rw [if_neg c15, if_neg c65]; done) | (rw [if_neg c15, if_pos c65, if_pos c84]; done) | (rw [if_neg c15, if_pos c65, if_neg c84]; done)) rfl (ih (i + 1) _ _ _ (by omega) (by omega))
        · skip
          rw [st2_o m3 n6] at c15
          refine j_goto hE 96 dX3_runByCracks_18 (by decide) ?_
          refine j_iinc3 hE (nI (i + 1)) dX3_runByCracks_96 (nI_inc _) rfl ?_
          refine j_goto hE 2 dX3_runByCracks_99 (by decide) ?_
          exact j_cast (by rw [rcF]; first | (rw [if_pos c15]; done) | (rw [if_neg c15, if_neg c65]; done) | (rw [if_neg c15, if_pos c65, if_pos c84]; done) | (rw [if_neg c15, if_pos c65, if_neg c84]; done)) rfl (ih (i + 1) _ _ _ (by omega) (by omega))
  exact j_cast (st2_self S dd ff).symm rfl (L2 (nc + 1) 0 none none none (by omega) (by omega))

def stF (dr : Int32) (p : Pr2) : Nat → Pr2
  | 0 => p
  | x + 1 => let q := stF dr p x; (putF 25 q.1 (nI x) (maxF (nI 0) (minF (nI 9) (pickF 25 q.1 (nI x) + q.2 x) - dr)), upd q.2 x (nI 0))
theorem stS {S : Sto} {dd ff : Nat} {p : Pr2} (h : dd + 1 ≠ ff + 2) (dr : Int32) (i : Nat) : up2 (putS 25 (st2 S dd ff (stF dr p i)) (dd + 1) (nI i) (maxF (nI 0) (minF (nI 9) (pickF 25 (st2 S dd ff (stF dr p i) (dd + 1)) (nI i) + st2 S dd ff (stF dr p i) (ff + 2) i) - dr))) (ff + 2) i (nI 0) = st2 S dd ff (stF dr p (i + 1)) := by
  rw [putS_eq, st2_w h, st2_c, st2_upw h]
  unfold up2
  rw [st2_c, st2_upc]
  rfl
set_option maxHeartbeats 4000000 in
set_option maxRecDepth 100000 in
theorem c_X3_settle (l : Launch) (C : JC) (hC : JInj C) (S : Sto) (dd : Nat) (g0 : jsh dd = (0, 1)) (g1 : jsh (dd + 1) = (1, 25)) (g2 : jsh (dd + 2) = (1, 4)) (ff : Nat) (f0 : jsh ff = (0, 3)) (f1 : jsh (ff + 1) = (1, 25)) (f2 : jsh (ff + 2) = (1, 25)) (dr : Int32) : Con l C yX3_settle cX3_settle 5 none 2 [.ref (C.2.1 ff), .ref (C.2.1 dd), .int dr] S none (st2 S dd ff (stF dr (S (dd + 1), S (ff + 2)) 25)) := by
  have n6 : dd ≠ ff + 1 := ne_sh g0 f1 (by decide)
  have n0 : dd + 1 ≠ ff + 2 := by omega
  refine con_of RX3 2 [some (.ref (C.2.1 ff)), some (.ref (C.2.1 dd)), some (.int dr), none, none] (by decide) rfl hC (Nat.le_of_ble_eq_true rfl) rfl (Nat.le_of_ble_eq_true rfl) (fun E hE hR => ?_)
  refine j_iconst hE (nI 0) dX3_settle_0 kiconst_0 ?_
  refine j_istore3 hE dX3_settle_1 rfl ?_
  have L2 : ∀ (fu : Nat) (i : Nat) (x4 : Option Value), 25 - i < fu → (i ≤ 25) → J C E (st2 S dd ff (stF dr (S (dd + 1), S (ff + 2)) i)) 2 [some (.ref (C.2.1 ff)), some (.ref (C.2.1 dd)), some (.int dr), some (.int (nI i)), x4] [] := by
    intro fu
    induction fu with
    | zero => intro i x4 hm; omega
    | succ fu ih =>
      intro i x4 hm hi
      refine j_iload3 hE dX3_settle_2 ?_
      refine j_aload0 hE dX3_settle_3 ?_
      refine j_getr hE fX3_15 dX3_settle_4 (by first | assumption | rfl) (rf_o (by first | assumption | rfl) (by decide)) ?_
      refine j_alen hE dX3_settle_7 (nI 25) (by first | assumption | rfl) rfl ?_
      refine j_icmpge hE 62 dX3_settle_8 (by decide) (fun c8 => ?_) (fun c8 => ?_)
      · skip
        have c8 := (nI_leI (by omega) (by omega)).mp c8
        have hii : i = 25 := by omega
        subst hii
        exact j_vret hE hR dX3_settle_62 (rfl)
      · skip
        have c8 : i < 25 := Nat.lt_of_not_le (fun q => c8 (nI_le q (by omega)))
        refine j_bipush hE (nI 9) dX3_settle_11 kbipush_9 ?_
        refine j_aload1 hE dX3_settle_13 ?_
        refine j_getr hE fX3_37 dX3_settle_14 (by first | assumption | rfl) (rf_o (by first | assumption | rfl) (by decide)) ?_
        refine j_iload3 hE dX3_settle_17 ?_
        refine j_SN2i hE mX3_33 (c_X10_pick l C hC _ (dd + 1) 25 g1 (by decide) _) dX3_settle_18 (by decide) (Nat.le_of_ble_eq_true rfl) ?_
        refine j_aload0 hE dX3_settle_21 ?_
        refine j_getr hE fX3_15 dX3_settle_22 (by first | assumption | rfl) (rf_o (by first | assumption | rfl) (by decide)) ?_
        refine j_iload3 hE dX3_settle_25 ?_
        refine j_ialdN hE dX3_settle_26 (by first | assumption | rfl) (by omega) (by decide) ?_
        refine j_iadd hE dX3_settle_27 ?_
        refine j_mmin hE mX3_40 dX3_settle_28 (by decide) (Nat.le_of_ble_eq_true rfl) ?_
        refine j_istore4 hE dX3_settle_31 rfl ?_
        refine j_aload1 hE dX3_settle_33 ?_
        refine j_getr hE fX3_37 dX3_settle_34 (by first | assumption | rfl) (rf_o (by first | assumption | rfl) (by decide)) ?_
        refine j_iload3 hE dX3_settle_37 ?_
        refine j_iconst hE (nI 0) dX3_settle_38 kiconst_0 ?_
        refine j_iload4 hE dX3_settle_39 ?_
        refine j_iload2 hE dX3_settle_41 ?_
        refine j_isub hE dX3_settle_42 ?_
        refine j_mmax hE mX3_97 dX3_settle_43 (by decide) (Nat.le_of_ble_eq_true rfl) ?_
        refine j_SN3v hE mX3_46 (c_X10_put l C hC _ (dd + 1) 25 g1 (by decide) _ _) dX3_settle_46 (by decide) (Nat.le_of_ble_eq_true rfl) ?_
        refine j_aload0 hE dX3_settle_49 ?_
        refine j_getr hE fX3_15 dX3_settle_50 (by first | assumption | rfl) (rf_o (by first | assumption | rfl) (by decide)) ?_
        refine j_iload3 hE dX3_settle_53 ?_
        refine j_iconst hE (nI 0) dX3_settle_54 kiconst_0 ?_
        refine j_iastN hE dX3_settle_55 (by first | assumption | rfl) (by omega) (by decide) ?_
        refine j_iinc3 hE (nI (i + 1)) dX3_settle_56 (nI_inc _) rfl ?_
        refine j_goto hE 2 dX3_settle_59 (by decide) ?_
        exact j_cast (stS n0 dr i) rfl (ih (i + 1) _ (by omega) (by omega))
  exact j_cast (st2_self S dd ff).symm rfl (L2 26 0 none (by omega) (by omega))

def lkF (lk : Nat → Int32) (r : Int32) (w : Nat → Int32) : Nat → Nat → Int32
  | 0 => w
  | n + 1 => putF 25 (lkF lk r w n) (pickF 4 lk (nI n)) (minF (nI 9) (pickF 25 (lkF lk r w n) (pickF 4 lk (nI n)) + r))
def rainT (S : Sto) (pp dd ff nl nc : Nat) (r dr : Int32) : Sto :=
  let T := upA S (dd + 1) (lkF (S (dd + 2)) r (S (dd + 1)) nl)
  let S1 := upA T (ff + 1) (cpN 25 (T (dd + 1)) (T (ff + 1)))
  let S2 := st2 S1 dd ff (rdF S1 pp (S1 dd 2) (S1 (ff + 1)) (S1 (dd + 1), S1 (ff + 2)) 25)
  let S3 := st2 S2 dd ff (rcF S2 pp (S2 dd 3) (S2 (ff + 1)) (S2 (dd + 1), S2 (ff + 2)) nc)
  let S4 := st2 S3 dd ff (stF dr (S3 (dd + 1), S3 (ff + 2)) 25)
  up2 S4 dd 4 (S4 dd 4 + nI 1)
def rainS (S : Sto) (pp dd ff nl nc : Nat) (r : Int32) : Sto := rainT S pp dd ff nl nc r (if r = 0 then nI 1 else nI 0)
theorem lkS {S : Sto} {dd : Nat} {lk : Nat → Int32} {r : Int32} {i : Nat} : putS 25 (upA S (dd + 1) (lkF lk r (S (dd + 1)) i)) (dd + 1) (pickF 4 lk (nI i)) (minF (nI 9) (pickF 25 (upA S (dd + 1) (lkF lk r (S (dd + 1)) i) (dd + 1)) (pickF 4 lk (nI i)) + r)) = upA S (dd + 1) (lkF lk r (S (dd + 1)) (i + 1)) := by
  rw [putS_eq, upA_same, upA_upA]
  rfl
theorem rain_o {S : Sto} {pp dd ff nl nc : Nat} {r : Int32} {i : Nat} (h0 : i ≠ dd) (h1 : i ≠ dd + 1) (h2 : i ≠ ff + 1) (h3 : i ≠ ff + 2) : rainS S pp dd ff nl nc r i = S i := by
  unfold rainS rainT
  rw [up2_ne _ _ _ h0, st2_o h1 h3, st2_o h1 h3, st2_o h1 h3, upA_ne _ _ h2, upA_ne _ _ h1]
set_option maxHeartbeats 4000000 in
set_option maxRecDepth 100000 in
theorem c_X3_rainDay (l : Launch) (C : JC) (hC : JInj C) (S : Sto) (pp : Nat) (h0 : jsh pp = (0, 6)) (h1 : jsh (pp + 1) = (1, 4)) (h2 : jsh (pp + 2) = (1, 6)) (h3 : jsh (pp + 3) = (1, 6)) (h4 : jsh (pp + 4) = (1, 5)) (dd : Nat) (g0 : jsh dd = (0, 1)) (g1 : jsh (dd + 1) = (1, 25)) (g2 : jsh (dd + 2) = (1, 4)) (ff : Nat) (f0 : jsh ff = (0, 3)) (f1 : jsh (ff + 1) = (1, 25)) (f2 : jsh (ff + 2) = (1, 25)) (nl : Nat) (hnl : S pp 8 = nI nl) (hll : nl ≤ 4) (nc : Nat) (hnc : S pp 9 = nI nc) (hle : nc ≤ 6) (r : Int32) : Con l C yX3_rainDay cX3_rainDay 6 none 4 [.ref (C.2.1 ff), .ref (C.2.1 pp), .ref (C.2.1 dd), .int r] S none (rainS S pp dd ff nl nc r) := by
  have n1 : pp ≠ dd + 1 := ne_sh h0 g1 (by decide)
  have n2 : pp ≠ ff + 2 := ne_sh h0 f2 (by decide)
  have n3 : pp ≠ ff + 1 := ne_sh h0 f1 (by decide)
  have n4 : dd ≠ ff := ne_sh g0 f0 (by decide)
  have n5 : dd ≠ ff + 1 := ne_sh g0 f1 (by decide)
  have n6 : dd ≠ ff + 2 := ne_sh g0 f2 (by decide)
  have n7 : ff ≠ dd + 1 := ne_sh f0 g1 (by decide)
  have m8 : dd + 2 ≠ dd + 1 := by omega
  refine con_of RX3 2 [some (.ref (C.2.1 ff)), some (.ref (C.2.1 pp)), some (.ref (C.2.1 dd)), some (.int r), none, none] (by decide) rfl hC (Nat.le_of_ble_eq_true rfl) rfl (Nat.le_of_ble_eq_true rfl) (fun E hE hR => ?_)
  refine j_iconst hE (nI 0) dX3_rainDay_0 kiconst_0 ?_
  refine j_istore4 hE dX3_rainDay_1 rfl ?_
  have L3 : ∀ (fu : Nat) (i : Nat) (x5 : Option Value), nl - i < fu → (i ≤ nl) → J C E (upA S (dd + 1) (lkF (S (dd + 2)) r (S (dd + 1)) i)) 3 [some (.ref (C.2.1 ff)), some (.ref (C.2.1 pp)), some (.ref (C.2.1 dd)), some (.int r), some (.int (nI i)), x5] [] := by
    intro fu
    induction fu with
    | zero => intro i x5 hm; omega
    | succ fu ih =>
      intro i x5 hm hi
      refine j_iload4 hE dX3_rainDay_3 ?_
      refine j_aload1 hE dX3_rainDay_5 ?_
      refine j_geti hE fX3_22 dX3_rainDay_6 (by first | assumption | rfl) ?_
      refine j_icmpge hE 54 dX3_rainDay_9 (by decide) (fun c9 => ?_) (fun c9 => ?_)
      · skip
        rw [upA_ne _ _ n1] at c9
        rw [hnl] at c9
        have c9 := (nI_leI (by omega) (by omega)).mp c9
        have hii : i = nl := by omega
        subst hii
        refine j_aload2 hE dX3_rainDay_54 ?_
        refine j_getr hE fX3_37 dX3_rainDay_55 (by first | assumption | rfl) (rf_o (by first | assumption | rfl) (by decide)) ?_
        refine j_iconst hE (nI 0) dX3_rainDay_58 kiconst_0 ?_
        refine j_aload0 hE dX3_rainDay_59 ?_
        refine j_getr hE fX3_9 dX3_rainDay_60 (by first | assumption | rfl) (rf_o (by first | assumption | rfl) (by decide)) ?_
        refine j_iconst hE (nI 0) dX3_rainDay_63 kiconst_0 ?_
        refine j_bipush hE (nI 25) dX3_rainDay_64 kbipush_25 ?_
        refine j_copy hE mX3_50 ac_n ac_s ac_i dX3_rainDay_66 25 (by decide) (by first | assumption | rfl) (by first | assumption | rfl) (by decide) (by decide) (by decide) (by decide) ?_
        refine j_aload0 hE dX3_rainDay_69 ?_
        refine j_aload1 hE dX3_rainDay_70 ?_
        refine j_aload2 hE dX3_rainDay_71 ?_
        refine j_V2v hE mX3_56 (c_X3_runDownAndByWind l C hC _ pp h0 h1 h2 h3 h4 dd g0 g1 g2 ff f0 f1 f2) dX3_rainDay_72 (by first | assumption | rfl) (by decide) (Nat.le_of_ble_eq_true rfl) ?_
        refine j_aload0 hE dX3_rainDay_75 ?_
        refine j_aload1 hE dX3_rainDay_76 ?_
        refine j_aload2 hE dX3_rainDay_77 ?_
        refine j_V2v hE mX3_60 (c_X3_runByCracks l C hC _ pp h0 h1 h2 h3 h4 dd g0 g1 g2 ff f0 f1 f2 nc (by rw [st2_o n1 n2, upA_ne _ _ n3, upA_ne _ _ n1]; exact hnc) hle) dX3_rainDay_78 (by first | assumption | rfl) (by decide) (Nat.le_of_ble_eq_true rfl) ?_
        refine j_aload0 hE dX3_rainDay_81 ?_
        refine j_aload2 hE dX3_rainDay_82 ?_
        refine j_iload3 hE dX3_rainDay_83 ?_
        refine j_ifne hE 91 dX3_rainDay_84 (by decide) (fun c84 => ?_) (fun c84 => ?_)
        · skip
          refine j_iconst hE (nI 0) dX3_rainDay_91 kiconst_0 ?_
          refine j_V2v hE mX3_63 (c_X3_settle l C hC _ dd g0 g1 g2 ff f0 f1 f2 _) dX3_rainDay_92 (by first | assumption | rfl) (by decide) (Nat.le_of_ble_eq_true rfl) ?_
          refine j_aload2 hE dX3_rainDay_95 ?_
          refine j_dup hE dX3_rainDay_96 rfl ?_
          refine j_geti hE fX3_67 dX3_rainDay_97 (by first | assumption | rfl) ?_
          refine j_iconst hE (nI 1) dX3_rainDay_100 kiconst_1 ?_
          refine j_iadd hE dX3_rainDay_101 ?_
          refine j_puti hE pX3_67 dX3_rainDay_102 (by first | assumption | rfl) rfl rfl ?_
          exact j_vret hE hR dX3_rainDay_105 (by first | (rw [rainS, if_pos c84]; rfl) | (rw [rainS, if_neg c84]; rfl))
        · skip
          refine j_iconst hE (nI 1) dX3_rainDay_87 kiconst_1 ?_
          refine j_goto hE 92 dX3_rainDay_88 (by decide) ?_
          refine j_V2v hE mX3_63 (c_X3_settle l C hC _ dd g0 g1 g2 ff f0 f1 f2 _) dX3_rainDay_92 (by first | assumption | rfl) (by decide) (Nat.le_of_ble_eq_true rfl) ?_
          refine j_aload2 hE dX3_rainDay_95 ?_
          refine j_dup hE dX3_rainDay_96 rfl ?_
          refine j_geti hE fX3_67 dX3_rainDay_97 (by first | assumption | rfl) ?_
          refine j_iconst hE (nI 1) dX3_rainDay_100 kiconst_1 ?_
          refine j_iadd hE dX3_rainDay_101 ?_
          refine j_puti hE pX3_67 dX3_rainDay_102 (by first | assumption | rfl) rfl rfl ?_
          exact j_vret hE hR dX3_rainDay_105 (by first | (rw [rainS, if_pos c84]; rfl) | (rw [rainS, if_neg c84]; rfl))
      · skip
        rw [upA_ne _ _ n1] at c9
        rw [hnl] at c9
        have c9 : i < nl := Nat.lt_of_not_le (fun q => c9 (nI_le q (by omega)))
        refine j_aload2 hE dX3_rainDay_12 ?_
        refine j_getr hE fX3_28 dX3_rainDay_13 (by first | assumption | rfl) (rf_o (by first | assumption | rfl) (by decide)) ?_
        refine j_iload4 hE dX3_rainDay_16 ?_
        refine j_SN2i hE mX3_33 (c_X10_pick l C hC _ (dd + 2) 4 g2 (by decide) _) dX3_rainDay_18 (by decide) (Nat.le_of_ble_eq_true rfl) ?_
        refine j_top (by rw [upA_ne _ _ m8]) ?_
        refine j_istore5 hE dX3_rainDay_21 rfl ?_
        refine j_aload2 hE dX3_rainDay_23 ?_
        refine j_getr hE fX3_37 dX3_rainDay_24 (by first | assumption | rfl) (rf_o (by first | assumption | rfl) (by decide)) ?_
        refine j_iload5 hE dX3_rainDay_27 ?_
        refine j_bipush hE (nI 9) dX3_rainDay_29 kbipush_9 ?_
        refine j_aload2 hE dX3_rainDay_31 ?_
        refine j_getr hE fX3_37 dX3_rainDay_32 (by first | assumption | rfl) (rf_o (by first | assumption | rfl) (by decide)) ?_
        refine j_iload5 hE dX3_rainDay_35 ?_
        refine j_SN2i hE mX3_33 (c_X10_pick l C hC _ (dd + 1) 25 g1 (by decide) _) dX3_rainDay_37 (by decide) (Nat.le_of_ble_eq_true rfl) ?_
        refine j_iload3 hE dX3_rainDay_40 ?_
        refine j_iadd hE dX3_rainDay_41 ?_
        refine j_mmin hE mX3_40 dX3_rainDay_42 (by decide) (Nat.le_of_ble_eq_true rfl) ?_
        refine j_SN3v hE mX3_46 (c_X10_put l C hC _ (dd + 1) 25 g1 (by decide) _ _) dX3_rainDay_45 (by decide) (Nat.le_of_ble_eq_true rfl) ?_
        refine j_iinc4 hE (nI (i + 1)) dX3_rainDay_48 (nI_inc _) rfl ?_
        refine j_goto hE 3 dX3_rainDay_51 (by decide) ?_
        exact j_cast lkS rfl (ih (i + 1) _ (by omega) (by omega))
  exact j_cast (upA_self S (dd + 1)).symm rfl (L3 (nl + 1) 0 none (by omega) (by omega))

def daysS (S : Sto) (pp dd ff nl nc : Nat) (r : Int32) : Nat → Sto
  | 0 => S
  | n + 1 => rainS (daysS S pp dd ff nl nc r n) pp dd ff nl nc r
theorem days_o {S : Sto} {pp dd ff nl nc : Nat} {r : Int32} {i : Nat} (h0 : i ≠ dd) (h1 : i ≠ dd + 1) (h2 : i ≠ ff + 1) (h3 : i ≠ ff + 2) : ∀ n, daysS S pp dd ff nl nc r n i = S i
  | 0 => rfl
  | n + 1 => by rw [daysS, rain_o h0 h1 h2 h3, days_o h0 h1 h2 h3 n]
set_option maxHeartbeats 4000000 in
set_option maxRecDepth 100000 in
theorem c_X3_rainDays (l : Launch) (C : JC) (hC : JInj C) (S : Sto) (pp : Nat) (h0 : jsh pp = (0, 6)) (h1 : jsh (pp + 1) = (1, 4)) (h2 : jsh (pp + 2) = (1, 6)) (h3 : jsh (pp + 3) = (1, 6)) (h4 : jsh (pp + 4) = (1, 5)) (dd : Nat) (g0 : jsh dd = (0, 1)) (g1 : jsh (dd + 1) = (1, 25)) (g2 : jsh (dd + 2) = (1, 4)) (ff : Nat) (f0 : jsh ff = (0, 3)) (f1 : jsh (ff + 1) = (1, 25)) (f2 : jsh (ff + 2) = (1, 25)) (nl : Nat) (hnl : S pp 8 = nI nl) (hll : nl ≤ 4) (nc : Nat) (hnc : S pp 9 = nI nc) (hle : nc ≤ 6) (n : Nat) (hn : n < 2 ^ 31) (r : Int32) : Con l C yX3_rainDays cX3_rainDays 6 none 5 [.ref (C.2.1 ff), .ref (C.2.1 pp), .ref (C.2.1 dd), .int (nI n), .int r] S none (daysS S pp dd ff nl nc r n) := by
  have n1 : pp ≠ dd + 1 := ne_sh h0 g1 (by decide)
  have n2 : pp ≠ ff + 2 := ne_sh h0 f2 (by decide)
  have n3 : pp ≠ ff + 1 := ne_sh h0 f1 (by decide)
  have n4 : dd ≠ ff := ne_sh g0 f0 (by decide)
  have n5 : dd ≠ ff + 1 := ne_sh g0 f1 (by decide)
  have n6 : dd ≠ ff + 2 := ne_sh g0 f2 (by decide)
  have n7 : ff ≠ dd + 1 := ne_sh f0 g1 (by decide)
  have n8 : pp ≠ dd := ne_sh h0 g0 (by decide)
  refine con_of RX3 1 [some (.ref (C.2.1 ff)), some (.ref (C.2.1 pp)), some (.ref (C.2.1 dd)), some (.int (nI n)), some (.int r), none] (by decide) rfl hC (Nat.le_of_ble_eq_true rfl) rfl (Nat.le_of_ble_eq_true rfl) (fun E hE hR => ?_)
  refine j_iconst hE (nI 0) dX3_rainDays_0 kiconst_0 ?_
  refine j_istore5 hE dX3_rainDays_1 rfl ?_
  have L3 : ∀ (fu : Nat) (i : Nat), n - i < fu → (i ≤ n) → J C E (daysS S pp dd ff nl nc r i) 3 [some (.ref (C.2.1 ff)), some (.ref (C.2.1 pp)), some (.ref (C.2.1 dd)), some (.int (nI n)), some (.int r), some (.int (nI i))] [] := by
    intro fu
    induction fu with
    | zero => intro i hm; omega
    | succ fu ih =>
      intro i hm hi
      refine j_iload5 hE dX3_rainDays_3 ?_
      refine j_iload3 hE dX3_rainDays_5 ?_
      refine j_icmpge hE 23 dX3_rainDays_6 (by decide) (fun c6 => ?_) (fun c6 => ?_)
      · skip
        have c6 := (nI_leI (by omega) (by omega)).mp c6
        have hii : i = n := by omega
        subst hii
        exact j_vret hE hR dX3_rainDays_23 (rfl)
      · skip
        have c6 : i < n := Nat.lt_of_not_le (fun q => c6 (nI_le q (by omega)))
        refine j_aload0 hE dX3_rainDays_9 ?_
        refine j_aload1 hE dX3_rainDays_10 ?_
        refine j_aload2 hE dX3_rainDays_11 ?_
        refine j_iload4 hE dX3_rainDays_12 ?_
        refine j_V3v hE mX3_18 (c_X3_rainDay l C hC _ pp h0 h1 h2 h3 h4 dd g0 g1 g2 ff f0 f1 f2 nl (by rw [days_o n8 n1 n3 n2]; exact hnl) hll nc (by rw [days_o n8 n1 n3 n2]; exact hnc) hle r) dX3_rainDays_14 (by first | assumption | rfl) (by decide) (Nat.le_of_ble_eq_true rfl) ?_
        refine j_iinc5 hE (nI (i + 1)) dX3_rainDays_17 (nI_inc _) rfl ?_
        refine j_goto hE 3 dX3_rainDays_20 (by decide) ?_
        exact ih (i + 1) (by omega) (by omega)
  exact L3 (n + 1) 0 (by omega) (by omega)

