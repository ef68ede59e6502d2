/-! the model's day: left = cell 127, comes = cell 126, had = cell 125, now = cell 119 -/
def mst (S : Sto) (p : Pr2) : Sto := upA (upA S 127 p.1) 126 p.2
theorem mst_l {S : Sto} {p : Pr2} : mst S p 127 = p.1 := by unfold mst; rw [upA_ne _ _ (by decide), upA_same]
theorem mst_c {S : Sto} {p : Pr2} : mst S p 126 = p.2 := upA_same _ _ _
theorem mst_o {S : Sto} {p : Pr2} {i : Nat} (h1 : i ≠ 127) (h2 : i ≠ 126) : mst S p i = S i := by unfold mst; rw [upA_ne _ _ h2, upA_ne _ _ h1]
theorem mst_self (S : Sto) : mst S (S 127, S 126) = S := by
  unfold mst
  funext j
  unfold upA
  by_cases h : j = 126
  · subst h; simp
  · by_cases q : j = 127
    · subst q; simp
    · simp [h, q]
theorem mst_ul {S : Sto} {p : Pr2} {k : Nat} {v : Int32} : up2 (mst S p) 127 k v = mst S (upd p.1 k v, p.2) := by
  unfold up2
  rw [mst_l]
  unfold mst
  funext j
  unfold upA
  by_cases q : j = 127
  · subst q; simp
  · simp [q]
theorem mst_uc {S : Sto} {p : Pr2} {k : Nat} {v : Int32} : up2 (mst S p) 126 k v = mst S (p.1, upd p.2 k v) := by
  unfold up2
  rw [mst_c]
  unfold mst
  rw [upA_upA]
def mgF (p : Pr2) (a b : Nat) : Pr2 := if p.1 a ≤ 0 then p else (upd p.1 a (p.1 a - nI 1), upd p.2 b (p.2 b + nI 1))
set_option maxHeartbeats 4000000 in
set_option maxRecDepth 100000 in
theorem c_X11_give (l : Launch) (C : JC) (hC : JInj C) (S : Sto) (p : Pr2) (a b : Nat) (ha : a < 25) (hb : b < 25) : Con l C yX11_give cX11_give 3 none 1 [.ref (C.2.1 114), .int (nI a), .int (nI b)] (mst S p) none (mst S (mgF p a b)) := by
  refine con_of RX11 0 [some (.ref (C.2.1 114)), some (.int (nI a)), some (.int (nI b))] (by decide) rfl hC (Nat.le_of_ble_eq_true rfl) rfl (Nat.le_of_ble_eq_true rfl) (fun E hE hR => ?_)
  refine j_aload0 hE dX11_give_0 ?_
  refine j_getr hE fX11_50 dX11_give_1 (j := 127) (by first | assumption | rfl) (rfl) ?_
  refine j_iload1 hE dX11_give_4 ?_
  refine j_ialdN hE dX11_give_5 (by first | assumption | rfl) (by omega) (by decide) ?_
  refine j_ifle hE 29 dX11_give_6 (by decide) (fun c6 => ?_) (fun c6 => ?_)
  · skip
    rw [mst_l] at c6
    exact j_vret hE hR dX11_give_29 (by first | (rw [mgF, if_pos c6]; done) | (rw [mgF, if_neg c6, mst_ul, mst_uc, mst_l, mst_c]; done) | (rw [mgF, if_neg c6, mst_l, mst_ul, mst_c, mst_uc]; done))
  · skip
    rw [mst_l] at c6
    refine j_aload0 hE dX11_give_9 ?_
    refine j_getr hE fX11_50 dX11_give_10 (j := 127) (by first | assumption | rfl) (rfl) ?_
    refine j_iload1 hE dX11_give_13 ?_
    refine j_dup2 hE dX11_give_14 rfl rfl ?_
    refine j_ialdN hE dX11_give_15 (by first | assumption | rfl) (by omega) (by decide) ?_
    refine j_iconst hE (nI 1) dX11_give_16 kiconst_1 ?_
    refine j_isub hE dX11_give_17 ?_
    refine j_iastN hE dX11_give_18 (by first | assumption | rfl) (by omega) (by decide) ?_
    refine j_aload0 hE dX11_give_19 ?_
    refine j_getr hE fX11_47 dX11_give_20 (j := 126) (by first | assumption | rfl) (rfl) ?_
    refine j_iload2 hE dX11_give_23 ?_
    refine j_dup2 hE dX11_give_24 rfl rfl ?_
    refine j_ialdN hE dX11_give_25 (by first | assumption | rfl) (by omega) (by decide) ?_
    refine j_iconst hE (nI 1) dX11_give_26 kiconst_1 ?_
    refine j_iadd hE dX11_give_27 ?_
    refine j_iastN hE dX11_give_28 (by first | assumption | rfl) (by omega) (by decide) ?_
    exact j_vret hE hR dX11_give_29 (by first | (rw [mgF, if_pos c6]; done) | (rw [mgF, if_neg c6, mst_ul, mst_uc, mst_l, mst_c]; done) | (rw [mgF, if_neg c6, mst_l, mst_ul, mst_c, mst_uc]; done))

