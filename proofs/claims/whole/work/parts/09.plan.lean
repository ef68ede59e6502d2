theorem upA_ne_self (S : Sto) {a b : Nat} (f : Nat → Int32) (h : b ≠ a) : upA (upA S a f) b (S b) = upA S a f := by
  funext j
  unfold upA
  by_cases q : j = b
  · subst q; simp [h]
  · simp [q]
def plCells (S : Sto) (pp : Nat) : Int32 := S pp 4 * S pp 5
abbrev plAll (S : Sto) (pp : Nat) : Int32 := S pp 11
/-- the set of all cells, of h rows and w columns: what resize keeps -/
def allF (h w : Int32) : Int32 := (nI 1 <<< ((h * w) &&& 31)) - nI 1
def plCol (S : Sto) (pp : Nat) (x : Int32) : Int32 := if S pp 5 ≤ 0 then nI 0 else x - x / S pp 5 * S pp 5
def plBelow (S : Sto) (pp : Nat) (x : Int32) : Int32 := if plCells S pp ≤ x + S pp 5 then -1 else x + S pp 5
def plBeside (S : Sto) (pp : Nat) (x w : Int32) : Int32 := if w = nI 1 then (if plCol S pp x ≤ 0 then -1 else x - nI 1) else if w = nI 2 then (if S pp 5 ≤ plCol S pp x + nI 1 then -1 else x + nI 1) else -1
abbrev plTouch (S : Sto) (pp : Nat) (a b : Int32) : Prop := maxF a b - minF a b = S pp 5 ∨ (maxF a b - minF a b = nI 1 ∧ ¬ S pp 5 ≤ plCol S pp (minF a b) + nI 1)
/-- crack c of the first n is (a, b), either way round -/
abbrev plIs (S : Sto) (pp : Nat) (a b : Int32) (c : Nat) : Prop := (S (pp + 2) c = a ∧ S (pp + 3) c = b) ∨ (S (pp + 2) c = b ∧ S (pp + 3) c = a)
def crkB (S : Sto) (pp : Nat) (a b : Int32) : Nat → Bool
  | 0 => false
  | n + 1 => crkB S pp a b n || decide (plIs S pp a b n)
/-- the bits of the first column, of n rows -/
def fcF (w : Int32) : Nat → Int32
  | 0 => nI 0
  | n + 1 => fcF w n ||| (nI 1 <<< ((nI n * w) &&& 31))
def rszS (S : Sto) (pp : Nat) (h w : Int32) (n : Nat) : Sto := up2 (up2 (up2 (up2 S pp 4 h) pp 5 w) pp 11 (allF h w)) pp 6 (fcF w n)
theorem rszS_s (S : Sto) (pp : Nat) (h w : Int32) (n : Nat) : up2 (rszS S pp h w n) pp 6 (rszS S pp h w n pp 6 ||| (nI 1 <<< ((nI n * w) &&& 31))) = rszS S pp h w (n + 1) := by
  have e : rszS S pp h w n pp 6 = fcF w n := by simp [rszS, up2_same, pk_us]
  rw [e]
  unfold rszS
  funext i
  by_cases hi : i = pp
  · subst hi
    simp only [up2_same]
    funext k
    by_cases hk : k = 6 <;> simp [upd, hk, fcF]
  · simp only [up2_ne _ _ _ hi]
theorem rszS_0 (S : Sto) (pp : Nat) (h w : Int32) : up2 (up2 (up2 (up2 S pp 4 h) pp 5 w) pp 11 (allF h w)) pp 6 (nI 0) = rszS S pp h w 0 := rfl
set_option maxHeartbeats 4000000 in
set_option maxRecDepth 100000 in
theorem c_X7_cells (l : Launch) (C : JC) (hC : JInj C) (S : Sto) (pp : Nat) (h0 : jsh pp = (0, 6))  : Con l C yX7_cells cX7_cells 1 (some .int) 1 [.ref (C.2.1 pp)] S (some (.int (plCells S pp))) (S) := by
  refine con_of RX7 0 [some (.ref (C.2.1 pp))] (by decide) rfl hC (Nat.le_of_ble_eq_true rfl) rfl (Nat.le_of_ble_eq_true rfl) (fun E hE hR => ?_)
  refine j_aload0 hE dX7_cells_0 ?_
  refine j_geti hE fX7_41 dX7_cells_1 (by first | assumption | rfl) ?_
  refine j_aload0 hE dX7_cells_4 ?_
  refine j_geti hE fX7_44 dX7_cells_5 (by first | assumption | rfl) ?_
  refine j_imul hE dX7_cells_8 ?_
  exact j_iret hE hR dX7_cells_9 (rfl) (rfl)

set_option maxHeartbeats 4000000 in
set_option maxRecDepth 100000 in
theorem c_X7_columnOf (l : Launch) (C : JC) (hC : JInj C) (S : Sto) (pp : Nat) (h0 : jsh pp = (0, 6)) (x : Int32) : Con l C yX7_columnOf cX7_columnOf 2 (some .int) 1 [.ref (C.2.1 pp), .int x] S (some (.int (plCol S pp x))) (S) := by
  refine con_of RX7 0 [some (.ref (C.2.1 pp)), some (.int x)] (by decide) rfl hC (Nat.le_of_ble_eq_true rfl) rfl (Nat.le_of_ble_eq_true rfl) (fun E hE hR => ?_)
  refine j_aload0 hE dX7_columnOf_0 ?_
  refine j_geti hE fX7_44 dX7_columnOf_1 (by first | assumption | rfl) ?_
  refine j_ifle hE 16 dX7_columnOf_4 (by decide) (fun c4 => ?_) (fun c4 => ?_)
  · skip
    refine j_iconst hE (nI 0) dX7_columnOf_16 kiconst_0 ?_
    exact j_iret hE hR dX7_columnOf_17 (by simp [plCol, c4]) (rfl)
  · skip
    refine j_iload1 hE dX7_columnOf_7 ?_
    refine j_aload0 hE dX7_columnOf_8 ?_
    refine j_geti hE fX7_44 dX7_columnOf_9 (by first | assumption | rfl) ?_
    refine j_irem hE dX7_columnOf_12 (fun q => c4 (by rw [q]; decide)) ?_
    refine j_goto hE 17 dX7_columnOf_13 (by decide) ?_
    exact j_iret hE hR dX7_columnOf_17 (by simp [plCol, c4]) (rfl)

set_option maxHeartbeats 4000000 in
set_option maxRecDepth 100000 in
theorem c_X7_hasCell (l : Launch) (C : JC) (hC : JInj C) (S : Sto) (pp : Nat) (h0 : jsh pp = (0, 6)) (x : Int32) : Con l C yX7_hasCell cX7_hasCell 2 (some .boolean) 2 [.ref (C.2.1 pp), .int x] S (some (.int (if ¬ x < 0 ∧ ¬ plCells S pp ≤ x then nI 1 else nI 0))) (S) := by
  refine con_of RX7 0 [some (.ref (C.2.1 pp)), some (.int x)] (by decide) rfl hC (Nat.le_of_ble_eq_true rfl) rfl (Nat.le_of_ble_eq_true rfl) (fun E hE hR => ?_)
  refine j_iload1 hE dX7_hasCell_0 ?_
  refine j_iflt hE 16 dX7_hasCell_1 (by decide) (fun c1 => ?_) (fun c1 => ?_)
  · skip
    refine j_iconst hE (nI 0) dX7_hasCell_16 kiconst_0 ?_
    exact j_zret hE hR dX7_hasCell_17 (by first
        | (rw [if_neg (fun q => q.1 c1)]; done)
        | (rw [if_neg (fun q => q.2 c9)]; done)
        | (rw [if_pos ⟨c1, c9⟩]; done)) (rfl) nar_c
  · skip
    refine j_iload1 hE dX7_hasCell_4 ?_
    refine j_aload0 hE dX7_hasCell_5 ?_
    refine j_V0i hE mX7_53 (c_X7_cells l C hC _ pp h0) dX7_hasCell_6 (by first | assumption | rfl) (by decide) (Nat.le_of_ble_eq_true rfl) ?_
    refine j_icmpge hE 16 dX7_hasCell_9 (by decide) (fun c9 => ?_) (fun c9 => ?_)
    · skip
      refine j_iconst hE (nI 0) dX7_hasCell_16 kiconst_0 ?_
      exact j_zret hE hR dX7_hasCell_17 (by first
          | (rw [if_neg (fun q => q.1 c1)]; done)
          | (rw [if_neg (fun q => q.2 c9)]; done)
          | (rw [if_pos ⟨c1, c9⟩]; done)) (rfl) nar_c
    · skip
      refine j_iconst hE (nI 1) dX7_hasCell_12 kiconst_1 ?_
      refine j_goto hE 17 dX7_hasCell_13 (by decide) ?_
      exact j_zret hE hR dX7_hasCell_17 (by first
          | (rw [if_neg (fun q => q.1 c1)]; done)
          | (rw [if_neg (fun q => q.2 c9)]; done)
          | (rw [if_pos ⟨c1, c9⟩]; done)) (rfl) nar_c

set_option maxHeartbeats 4000000 in
set_option maxRecDepth 100000 in
theorem c_X7_hasLeak (l : Launch) (C : JC) (hC : JInj C) (S : Sto) (pp : Nat) (h0 : jsh pp = (0, 6)) (x : Int32) : Con l C yX7_hasLeak cX7_hasLeak 2 (some .boolean) 1 [.ref (C.2.1 pp), .int x] S (some (.int (if ¬ x < 0 ∧ ¬ S pp 8 ≤ x then nI 1 else nI 0))) (S) := by
  refine con_of RX7 0 [some (.ref (C.2.1 pp)), some (.int x)] (by decide) rfl hC (Nat.le_of_ble_eq_true rfl) rfl (Nat.le_of_ble_eq_true rfl) (fun E hE hR => ?_)
  refine j_iload1 hE dX7_hasLeak_0 ?_
  refine j_iflt hE 16 dX7_hasLeak_1 (by decide) (fun c1 => ?_) (fun c1 => ?_)
  · skip
    refine j_iconst hE (nI 0) dX7_hasLeak_16 kiconst_0 ?_
    exact j_zret hE hR dX7_hasLeak_17 (by first
        | (rw [if_neg (fun q => q.1 c1)]; done)
        | (rw [if_neg (fun q => q.2 c9)]; done)
        | (rw [if_pos ⟨c1, c9⟩]; done)) (rfl) nar_c
  · skip
    refine j_iload1 hE dX7_hasLeak_4 ?_
    refine j_aload0 hE dX7_hasLeak_5 ?_
    refine j_geti hE fX7_32 dX7_hasLeak_6 (by first | assumption | rfl) ?_
    refine j_icmpge hE 16 dX7_hasLeak_9 (by decide) (fun c9 => ?_) (fun c9 => ?_)
    · skip
      refine j_iconst hE (nI 0) dX7_hasLeak_16 kiconst_0 ?_
      exact j_zret hE hR dX7_hasLeak_17 (by first
          | (rw [if_neg (fun q => q.1 c1)]; done)
          | (rw [if_neg (fun q => q.2 c9)]; done)
          | (rw [if_pos ⟨c1, c9⟩]; done)) (rfl) nar_c
    · skip
      refine j_iconst hE (nI 1) dX7_hasLeak_12 kiconst_1 ?_
      refine j_goto hE 17 dX7_hasLeak_13 (by decide) ?_
      exact j_zret hE hR dX7_hasLeak_17 (by first
          | (rw [if_neg (fun q => q.1 c1)]; done)
          | (rw [if_neg (fun q => q.2 c9)]; done)
          | (rw [if_pos ⟨c1, c9⟩]; done)) (rfl) nar_c

set_option maxHeartbeats 4000000 in
set_option maxRecDepth 100000 in
theorem c_X7_hasCrack (l : Launch) (C : JC) (hC : JInj C) (S : Sto) (pp : Nat) (h0 : jsh pp = (0, 6)) (x : Int32) : Con l C yX7_hasCrack cX7_hasCrack 2 (some .boolean) 1 [.ref (C.2.1 pp), .int x] S (some (.int (if ¬ x < 0 ∧ ¬ S pp 9 ≤ x then nI 1 else nI 0))) (S) := by
  refine con_of RX7 0 [some (.ref (C.2.1 pp)), some (.int x)] (by decide) rfl hC (Nat.le_of_ble_eq_true rfl) rfl (Nat.le_of_ble_eq_true rfl) (fun E hE hR => ?_)
  refine j_iload1 hE dX7_hasCrack_0 ?_
  refine j_iflt hE 16 dX7_hasCrack_1 (by decide) (fun c1 => ?_) (fun c1 => ?_)
  · skip
    refine j_iconst hE (nI 0) dX7_hasCrack_16 kiconst_0 ?_
    exact j_zret hE hR dX7_hasCrack_17 (by first
        | (rw [if_neg (fun q => q.1 c1)]; done)
        | (rw [if_neg (fun q => q.2 c9)]; done)
        | (rw [if_pos ⟨c1, c9⟩]; done)) (rfl) nar_c
  · skip
    refine j_iload1 hE dX7_hasCrack_4 ?_
    refine j_aload0 hE dX7_hasCrack_5 ?_
    refine j_geti hE fX7_35 dX7_hasCrack_6 (by first | assumption | rfl) ?_
    refine j_icmpge hE 16 dX7_hasCrack_9 (by decide) (fun c9 => ?_) (fun c9 => ?_)
    · skip
      refine j_iconst hE (nI 0) dX7_hasCrack_16 kiconst_0 ?_
      exact j_zret hE hR dX7_hasCrack_17 (by first
          | (rw [if_neg (fun q => q.1 c1)]; done)
          | (rw [if_neg (fun q => q.2 c9)]; done)
          | (rw [if_pos ⟨c1, c9⟩]; done)) (rfl) nar_c
    · skip
      refine j_iconst hE (nI 1) dX7_hasCrack_12 kiconst_1 ?_
      refine j_goto hE 17 dX7_hasCrack_13 (by decide) ?_
      exact j_zret hE hR dX7_hasCrack_17 (by first
          | (rw [if_neg (fun q => q.1 c1)]; done)
          | (rw [if_neg (fun q => q.2 c9)]; done)
          | (rw [if_pos ⟨c1, c9⟩]; done)) (rfl) nar_c

set_option maxHeartbeats 4000000 in
set_option maxRecDepth 100000 in
theorem c_X7_hasFace (l : Launch) (C : JC) (hC : JInj C) (S : Sto) (pp : Nat) (h0 : jsh pp = (0, 6)) (x : Int32) : Con l C yX7_hasFace cX7_hasFace 2 (some .boolean) 1 [.ref (C.2.1 pp), .int x] S (some (.int (if ¬ x < 0 ∧ ¬ S pp 10 ≤ x then nI 1 else nI 0))) (S) := by
  refine con_of RX7 0 [some (.ref (C.2.1 pp)), some (.int x)] (by decide) rfl hC (Nat.le_of_ble_eq_true rfl) rfl (Nat.le_of_ble_eq_true rfl) (fun E hE hR => ?_)
  refine j_iload1 hE dX7_hasFace_0 ?_
  refine j_iflt hE 16 dX7_hasFace_1 (by decide) (fun c1 => ?_) (fun c1 => ?_)
  · skip
    refine j_iconst hE (nI 0) dX7_hasFace_16 kiconst_0 ?_
    exact j_zret hE hR dX7_hasFace_17 (by first
        | (rw [if_neg (fun q => q.1 c1)]; done)
        | (rw [if_neg (fun q => q.2 c9)]; done)
        | (rw [if_pos ⟨c1, c9⟩]; done)) (rfl) nar_c
  · skip
    refine j_iload1 hE dX7_hasFace_4 ?_
    refine j_aload0 hE dX7_hasFace_5 ?_
    refine j_geti hE fX7_38 dX7_hasFace_6 (by first | assumption | rfl) ?_
    refine j_icmpge hE 16 dX7_hasFace_9 (by decide) (fun c9 => ?_) (fun c9 => ?_)
    · skip
      refine j_iconst hE (nI 0) dX7_hasFace_16 kiconst_0 ?_
      exact j_zret hE hR dX7_hasFace_17 (by first
          | (rw [if_neg (fun q => q.1 c1)]; done)
          | (rw [if_neg (fun q => q.2 c9)]; done)
          | (rw [if_pos ⟨c1, c9⟩]; done)) (rfl) nar_c
    · skip
      refine j_iconst hE (nI 1) dX7_hasFace_12 kiconst_1 ?_
      refine j_goto hE 17 dX7_hasFace_13 (by decide) ?_
      exact j_zret hE hR dX7_hasFace_17 (by first
          | (rw [if_neg (fun q => q.1 c1)]; done)
          | (rw [if_neg (fun q => q.2 c9)]; done)
          | (rw [if_pos ⟨c1, c9⟩]; done)) (rfl) nar_c

set_option maxHeartbeats 4000000 in
set_option maxRecDepth 100000 in
theorem c_X7_below (l : Launch) (C : JC) (hC : JInj C) (S : Sto) (pp : Nat) (h0 : jsh pp = (0, 6)) (x : Int32) : Con l C yX7_below cX7_below 2 (some .int) 2 [.ref (C.2.1 pp), .int x] S (some (.int (plBelow S pp x))) (S) := by
  refine con_of RX7 0 [some (.ref (C.2.1 pp)), some (.int x)] (by decide) rfl hC (Nat.le_of_ble_eq_true rfl) rfl (Nat.le_of_ble_eq_true rfl) (fun E hE hR => ?_)
  refine j_iload1 hE dX7_below_0 ?_
  refine j_aload0 hE dX7_below_1 ?_
  refine j_geti hE fX7_44 dX7_below_2 (by first | assumption | rfl) ?_
  refine j_iadd hE dX7_below_5 ?_
  refine j_aload0 hE dX7_below_6 ?_
  refine j_V0i hE mX7_53 (c_X7_cells l C hC _ pp h0) dX7_below_7 (by first | assumption | rfl) (by decide) (Nat.le_of_ble_eq_true rfl) ?_
  refine j_icmpge hE 22 dX7_below_10 (by decide) (fun c10 => ?_) (fun c10 => ?_)
  · skip
    refine j_iconst hE (-1) dX7_below_22 kiconst_m1 ?_
    exact j_iret hE hR dX7_below_23 (by simp [plBelow, c10]) (rfl)
  · skip
    refine j_iload1 hE dX7_below_13 ?_
    refine j_aload0 hE dX7_below_14 ?_
    refine j_geti hE fX7_44 dX7_below_15 (by first | assumption | rfl) ?_
    refine j_iadd hE dX7_below_18 ?_
    refine j_goto hE 23 dX7_below_19 (by decide) ?_
    exact j_iret hE hR dX7_below_23 (by simp [plBelow, c10]) (rfl)

set_option maxHeartbeats 4000000 in
set_option maxRecDepth 100000 in
theorem c_X7_beside (l : Launch) (C : JC) (hC : JInj C) (S : Sto) (pp : Nat) (h0 : jsh pp = (0, 6)) (x w : Int32) : Con l C yX7_beside cX7_beside 3 (some .int) 2 [.ref (C.2.1 pp), .int x, .int w] S (some (.int (plBeside S pp x w))) (S) := by
  refine con_of RX7 0 [some (.ref (C.2.1 pp)), some (.int x), some (.int w)] (by decide) rfl hC (Nat.le_of_ble_eq_true rfl) rfl (Nat.le_of_ble_eq_true rfl) (fun E hE hR => ?_)
  refine j_iload2 hE dX7_beside_0 ?_
  refine j_iconst hE (nI 1) dX7_beside_1 kiconst_1 ?_
  refine j_icmpne hE 21 dX7_beside_2 (by decide) (fun c2 => ?_) (fun c2 => ?_)
  · skip
    refine j_iload2 hE dX7_beside_21 ?_
    refine j_iconst hE (nI 2) dX7_beside_22 kiconst_2 ?_
    refine j_icmpne hE 46 dX7_beside_23 (by decide) (fun c23 => ?_) (fun c23 => ?_)
    · skip
      refine j_iconst hE (-1) dX7_beside_46 kiconst_m1 ?_
      exact j_iret hE hR dX7_beside_47 (by first
          | (rw [plBeside, if_neg c2, if_pos c23, if_pos c37]; done)
          | (rw [plBeside, if_neg c2, if_pos c23, if_neg c37]; done)
          | (rw [plBeside, if_neg c2, if_neg c23]; done)) (rfl)
    · skip
      refine j_aload0 hE dX7_beside_26 ?_
      refine j_iload1 hE dX7_beside_27 ?_
      refine j_V1i hE mX7_70 (c_X7_columnOf l C hC _ pp h0 x) dX7_beside_28 (by first | assumption | rfl) (by decide) (Nat.le_of_ble_eq_true rfl) ?_
      refine j_iconst hE (nI 1) dX7_beside_31 kiconst_1 ?_
      refine j_iadd hE dX7_beside_32 ?_
      refine j_aload0 hE dX7_beside_33 ?_
      refine j_geti hE fX7_44 dX7_beside_34 (by first | assumption | rfl) ?_
      refine j_icmpge hE 46 dX7_beside_37 (by decide) (fun c37 => ?_) (fun c37 => ?_)
      · skip
        refine j_iconst hE (-1) dX7_beside_46 kiconst_m1 ?_
        exact j_iret hE hR dX7_beside_47 (by first
            | (rw [plBeside, if_neg c2, if_pos c23, if_pos c37]; done)
            | (rw [plBeside, if_neg c2, if_pos c23, if_neg c37]; done)
            | (rw [plBeside, if_neg c2, if_neg c23]; done)) (rfl)
      · skip
        refine j_iload1 hE dX7_beside_40 ?_
        refine j_iconst hE (nI 1) dX7_beside_41 kiconst_1 ?_
        refine j_iadd hE dX7_beside_42 ?_
        refine j_goto hE 47 dX7_beside_43 (by decide) ?_
        exact j_iret hE hR dX7_beside_47 (by first
            | (rw [plBeside, if_neg c2, if_pos c23, if_pos c37]; done)
            | (rw [plBeside, if_neg c2, if_pos c23, if_neg c37]; done)
            | (rw [plBeside, if_neg c2, if_neg c23]; done)) (rfl)
  · skip
    refine j_aload0 hE dX7_beside_5 ?_
    refine j_iload1 hE dX7_beside_6 ?_
    refine j_V1i hE mX7_70 (c_X7_columnOf l C hC _ pp h0 x) dX7_beside_7 (by first | assumption | rfl) (by decide) (Nat.le_of_ble_eq_true rfl) ?_
    refine j_ifle hE 19 dX7_beside_10 (by decide) (fun c10 => ?_) (fun c10 => ?_)
    · skip
      refine j_iconst hE (-1) dX7_beside_19 kiconst_m1 ?_
      exact j_iret hE hR dX7_beside_20 (by simp [plBeside, c2, c10]) (rfl)
    · skip
      refine j_iload1 hE dX7_beside_13 ?_
      refine j_iconst hE (nI 1) dX7_beside_14 kiconst_1 ?_
      refine j_isub hE dX7_beside_15 ?_
      refine j_goto hE 20 dX7_beside_16 (by decide) ?_
      exact j_iret hE hR dX7_beside_20 (by simp [plBeside, c2, c10]) (rfl)

set_option maxHeartbeats 4000000 in
set_option maxRecDepth 100000 in
theorem c_X7_touch (l : Launch) (C : JC) (hC : JInj C) (S : Sto) (pp : Nat) (h0 : jsh pp = (0, 6)) (a b : Int32) : Con l C yX7_touch cX7_touch 5 (some .boolean) 2 [.ref (C.2.1 pp), .int a, .int b] S (some (.int (if plTouch S pp a b then nI 1 else nI 0))) (S) := by
  refine con_of RX7 2 [some (.ref (C.2.1 pp)), some (.int a), some (.int b), none, none] (by decide) rfl hC (Nat.le_of_ble_eq_true rfl) rfl (Nat.le_of_ble_eq_true rfl) (fun E hE hR => ?_)
  refine j_iload1 hE dX7_touch_0 ?_
  refine j_iload2 hE dX7_touch_1 ?_
  refine j_mmin hE mX7_61 dX7_touch_2 (by decide) (Nat.le_of_ble_eq_true rfl) ?_
  refine j_istore3 hE dX7_touch_5 rfl ?_
  refine j_iload1 hE dX7_touch_6 ?_
  refine j_iload2 hE dX7_touch_7 ?_
  refine j_mmax hE mX7_67 dX7_touch_8 (by decide) (Nat.le_of_ble_eq_true rfl) ?_
  refine j_iload3 hE dX7_touch_11 ?_
  refine j_isub hE dX7_touch_12 ?_
  refine j_istore4 hE dX7_touch_13 rfl ?_
  refine j_iload4 hE dX7_touch_15 ?_
  refine j_aload0 hE dX7_touch_17 ?_
  refine j_geti hE fX7_44 dX7_touch_18 (by first | assumption | rfl) ?_
  refine j_icmpeq hE 44 dX7_touch_21 (by decide) (fun c21 => ?_) (fun c21 => ?_)
  · skip
    refine j_iconst hE (nI 1) dX7_touch_44 kiconst_1 ?_
    refine j_goto hE 49 dX7_touch_45 (by decide) ?_
    exact j_zret hE hR dX7_touch_49 (by first
        | (rw [if_pos (Or.inl c21)]; done)
        | (rw [if_pos (Or.inr ⟨c27, c41⟩)]; done)
        | (rw [if_neg (fun q => q.elim c21 (fun z => c27 z.1))]; done)
        | (rw [if_neg (fun q => q.elim c21 (fun z => z.2 c41))]; done)) (rfl) nar_c
  · skip
    refine j_iload4 hE dX7_touch_24 ?_
    refine j_iconst hE (nI 1) dX7_touch_26 kiconst_1 ?_
    refine j_icmpne hE 48 dX7_touch_27 (by decide) (fun c27 => ?_) (fun c27 => ?_)
    · skip
      refine j_iconst hE (nI 0) dX7_touch_48 kiconst_0 ?_
      exact j_zret hE hR dX7_touch_49 (by first
          | (rw [if_pos (Or.inl c21)]; done)
          | (rw [if_pos (Or.inr ⟨c27, c41⟩)]; done)
          | (rw [if_neg (fun q => q.elim c21 (fun z => c27 z.1))]; done)
          | (rw [if_neg (fun q => q.elim c21 (fun z => z.2 c41))]; done)) (rfl) nar_c
    · skip
      refine j_aload0 hE dX7_touch_30 ?_
      refine j_iload3 hE dX7_touch_31 ?_
      refine j_V1i hE mX7_70 (c_X7_columnOf l C hC _ pp h0 _) dX7_touch_32 (by first | assumption | rfl) (by decide) (Nat.le_of_ble_eq_true rfl) ?_
      refine j_iconst hE (nI 1) dX7_touch_35 kiconst_1 ?_
      refine j_iadd hE dX7_touch_36 ?_
      refine j_aload0 hE dX7_touch_37 ?_
      refine j_geti hE fX7_44 dX7_touch_38 (by first | assumption | rfl) ?_
      refine j_icmpge hE 48 dX7_touch_41 (by decide) (fun c41 => ?_) (fun c41 => ?_)
      · skip
        refine j_iconst hE (nI 0) dX7_touch_48 kiconst_0 ?_
        exact j_zret hE hR dX7_touch_49 (by first
            | (rw [if_pos (Or.inl c21)]; done)
            | (rw [if_pos (Or.inr ⟨c27, c41⟩)]; done)
            | (rw [if_neg (fun q => q.elim c21 (fun z => c27 z.1))]; done)
            | (rw [if_neg (fun q => q.elim c21 (fun z => z.2 c41))]; done)) (rfl) nar_c
      · skip
        refine j_iconst hE (nI 1) dX7_touch_44 kiconst_1 ?_
        refine j_goto hE 49 dX7_touch_45 (by decide) ?_
        exact j_zret hE hR dX7_touch_49 (by first
            | (rw [if_pos (Or.inl c21)]; done)
            | (rw [if_pos (Or.inr ⟨c27, c41⟩)]; done)
            | (rw [if_neg (fun q => q.elim c21 (fun z => c27 z.1))]; done)
            | (rw [if_neg (fun q => q.elim c21 (fun z => z.2 c41))]; done)) (rfl) nar_c

theorem crkB_mono {S : Sto} {pp : Nat} {a b : Int32} {i n : Nat} (h : i < n) (hi : plIs S pp a b i) : crkB S pp a b n = true := by
  induction n with
  | zero => omega
  | succ n ih =>
    unfold crkB
    rcases Nat.lt_or_ge i n with q | q
    · rw [ih q]; rfl
    · have : i = n := by omega
      subst this
      simp [hi]
set_option maxHeartbeats 4000000 in
set_option maxRecDepth 100000 in
theorem c_X7_isCracked (l : Launch) (C : JC) (hC : JInj C) (S : Sto) (pp : Nat) (h0 : jsh pp = (0, 6)) (h1 : jsh (pp + 1) = (1, 4)) (h2 : jsh (pp + 2) = (1, 6)) (h3 : jsh (pp + 3) = (1, 6)) (h4 : jsh (pp + 4) = (1, 5)) (nc : Nat) (hnc : S pp 9 = nI nc) (hle : nc ≤ 6) (a b : Int32) : Con l C yX7_isCracked cX7_isCracked 4 (some .boolean) 1 [.ref (C.2.1 pp), .int a, .int b] S (some (.int (if crkB S pp a b nc = true then nI 1 else nI 0))) (S) := by
  refine con_of RX7 1 [some (.ref (C.2.1 pp)), some (.int a), some (.int b), none] (by decide) rfl hC (Nat.le_of_ble_eq_true rfl) rfl (Nat.le_of_ble_eq_true rfl) (fun E hE hR => ?_)
  refine j_iconst hE (nI 0) dX7_isCracked_0 kiconst_0 ?_
  refine j_istore3 hE dX7_isCracked_1 rfl ?_
  have L2 : ∀ (fu : Nat) (i : Nat), nc - i < fu → (i ≤ nc) → (crkB S pp a b i = false) → J C E S 2 [some (.ref (C.2.1 pp)), some (.int a), some (.int b), some (.int (nI i))] [] := by
    intro fu
    induction fu with
    | zero => intro i hm; omega
    | succ fu ih =>
      intro i hm hi hf
      refine j_iload3 hE dX7_isCracked_2 ?_
      refine j_aload0 hE dX7_isCracked_3 ?_
      refine j_geti hE fX7_35 dX7_isCracked_4 (by first | assumption | rfl) ?_
      refine j_icmpge hE 76 dX7_isCracked_7 (by decide) (fun c7 => ?_) (fun c7 => ?_)
      · skip
        rw [hnc] at c7
        have c7 := (nI_leI (by omega) (by omega)).mp c7
        have hii : i = nc := by omega
        subst hii
        refine j_iconst hE (nI 0) dX7_isCracked_76 kiconst_0 ?_
        exact j_zret hE hR dX7_isCracked_77 (by rw [if_neg (by rw [hf]; decide)]) (rfl) nar_c
      · skip
        rw [hnc] at c7
        have c7 : i < nc := Nat.lt_of_not_le (fun q => c7 (nI_le q (by omega)))
        refine j_iload3 hE dX7_isCracked_10 ?_
        refine j_aload0 hE dX7_isCracked_11 ?_
        refine j_getr hE fX7_15 dX7_isCracked_12 (by first | assumption | rfl) (rf_o (by first | assumption | rfl) (by decide)) ?_
        refine j_alen hE dX7_isCracked_15 (nI 6) (by first | assumption | rfl) rfl ?_
        refine j_icmpge hE 76 dX7_isCracked_16 (by decide) (fun c16 => ?_) (fun c16 => ?_)
        · skip
          exact absurd c16 (nI_ge (by omega) (by omega))
        · skip
          refine j_iload3 hE dX7_isCracked_19 ?_
          refine j_aload0 hE dX7_isCracked_20 ?_
          refine j_getr hE fX7_18 dX7_isCracked_21 (by first | assumption | rfl) (rf_o (by first | assumption | rfl) (by decide)) ?_
          refine j_alen hE dX7_isCracked_24 (nI 6) (by first | assumption | rfl) rfl ?_
          refine j_icmpge hE 76 dX7_isCracked_25 (by decide) (fun c25 => ?_) (fun c25 => ?_)
          · skip
            exact absurd c25 (nI_ge (by omega) (by omega))
          · skip
            refine j_aload0 hE dX7_isCracked_28 ?_
            refine j_getr hE fX7_15 dX7_isCracked_29 (by first | assumption | rfl) (rf_o (by first | assumption | rfl) (by decide)) ?_
            refine j_iload3 hE dX7_isCracked_32 ?_
            refine j_ialdN hE dX7_isCracked_33 (by first | assumption | rfl) (by omega) (by decide) ?_
            refine j_iload1 hE dX7_isCracked_34 ?_
            refine j_icmpne hE 48 dX7_isCracked_35 (by decide) (fun c35 => ?_) (fun c35 => ?_)
            · skip
              refine j_aload0 hE dX7_isCracked_48 ?_
              refine j_getr hE fX7_15 dX7_isCracked_49 (by first | assumption | rfl) (rf_o (by first | assumption | rfl) (by decide)) ?_
              refine j_iload3 hE dX7_isCracked_52 ?_
              refine j_ialdN hE dX7_isCracked_53 (by first | assumption | rfl) (by omega) (by decide) ?_
              refine j_iload2 hE dX7_isCracked_54 ?_
              refine j_icmpne hE 70 dX7_isCracked_55 (by decide) (fun c55 => ?_) (fun c55 => ?_)
              · skip
                refine j_iinc3 hE (nI (i + 1)) dX7_isCracked_70 (nI_inc _) rfl ?_
                refine j_goto hE 2 dX7_isCracked_73 (by decide) ?_
                have hf2 : crkB S pp a b (i + 1) = false := by
                  rw [crkB, hf, Bool.false_or, decide_eq_false_iff_not]
                  intro q
                  rcases q with ⟨q1, q2⟩ | ⟨q1, q2⟩
                  · first | exact c35 q1 | exact c45 q2
                  · first | exact c55 q1 | exact c65 q2
                exact ih (i + 1) (by omega) (by omega) hf2
              · skip
                refine j_aload0 hE dX7_isCracked_58 ?_
                refine j_getr hE fX7_18 dX7_isCracked_59 (by first | assumption | rfl) (rf_o (by first | assumption | rfl) (by decide)) ?_
                refine j_iload3 hE dX7_isCracked_62 ?_
                refine j_ialdN hE dX7_isCracked_63 (by first | assumption | rfl) (by omega) (by decide) ?_
                refine j_iload1 hE dX7_isCracked_64 ?_
                refine j_icmpne hE 70 dX7_isCracked_65 (by decide) (fun c65 => ?_) (fun c65 => ?_)
                · skip
                  refine j_iinc3 hE (nI (i + 1)) dX7_isCracked_70 (nI_inc _) rfl ?_
                  refine j_goto hE 2 dX7_isCracked_73 (by decide) ?_
                  have hf2 : crkB S pp a b (i + 1) = false := by
                    rw [crkB, hf, Bool.false_or, decide_eq_false_iff_not]
                    intro q
                    rcases q with ⟨q1, q2⟩ | ⟨q1, q2⟩
                    · first | exact c35 q1 | exact c45 q2
                    · first | exact c55 q1 | exact c65 q2
                  exact ih (i + 1) (by omega) (by omega) hf2
                · skip
                  refine j_iconst hE (nI 1) dX7_isCracked_68 kiconst_1 ?_
                  exact j_zret hE hR dX7_isCracked_69 (by rw [if_pos (crkB_mono c7 (by first | exact Or.inl ⟨c35, c45⟩ | exact Or.inr ⟨c55, c65⟩))]) (rfl) nar_c
            · skip
              refine j_aload0 hE dX7_isCracked_38 ?_
              refine j_getr hE fX7_18 dX7_isCracked_39 (by first | assumption | rfl) (rf_o (by first | assumption | rfl) (by decide)) ?_
              refine j_iload3 hE dX7_isCracked_42 ?_
              refine j_ialdN hE dX7_isCracked_43 (by first | assumption | rfl) (by omega) (by decide) ?_
              refine j_iload2 hE dX7_isCracked_44 ?_
              refine j_icmpeq hE 68 dX7_isCracked_45 (by decide) (fun c45 => ?_) (fun c45 => ?_)
              · skip
                refine j_iconst hE (nI 1) dX7_isCracked_68 kiconst_1 ?_
                exact j_zret hE hR dX7_isCracked_69 (by rw [if_pos (crkB_mono c7 (by first | exact Or.inl ⟨c35, c45⟩ | exact Or.inr ⟨c55, c65⟩))]) (rfl) nar_c
              · skip
                refine j_aload0 hE dX7_isCracked_48 ?_
                refine j_getr hE fX7_15 dX7_isCracked_49 (by first | assumption | rfl) (rf_o (by first | assumption | rfl) (by decide)) ?_
                refine j_iload3 hE dX7_isCracked_52 ?_
                refine j_ialdN hE dX7_isCracked_53 (by first | assumption | rfl) (by omega) (by decide) ?_
                refine j_iload2 hE dX7_isCracked_54 ?_
                refine j_icmpne hE 70 dX7_isCracked_55 (by decide) (fun c55 => ?_) (fun c55 => ?_)
                · skip
                  refine j_iinc3 hE (nI (i + 1)) dX7_isCracked_70 (nI_inc _) rfl ?_
                  refine j_goto hE 2 dX7_isCracked_73 (by decide) ?_
                  have hf2 : crkB S pp a b (i + 1) = false := by
                    rw [crkB, hf, Bool.false_or, decide_eq_false_iff_not]
                    intro q
                    rcases q with ⟨q1, q2⟩ | ⟨q1, q2⟩
                    · first | exact c35 q1 | exact c45 q2
                    · first | exact c55 q1 | exact c65 q2
                  exact ih (i + 1) (by omega) (by omega) hf2
                · skip
                  refine j_aload0 hE dX7_isCracked_58 ?_
                  refine j_getr hE fX7_18 dX7_isCracked_59 (by first | assumption | rfl) (rf_o (by first | assumption | rfl) (by decide)) ?_
                  refine j_iload3 hE dX7_isCracked_62 ?_
                  refine j_ialdN hE dX7_isCracked_63 (by first | assumption | rfl) (by omega) (by decide) ?_
                  refine j_iload1 hE dX7_isCracked_64 ?_
                  refine j_icmpne hE 70 dX7_isCracked_65 (by decide) (fun c65 => ?_) (fun c65 => ?_)
                  · skip
                    refine j_iinc3 hE (nI (i + 1)) dX7_isCracked_70 (nI_inc _) rfl ?_
                    refine j_goto hE 2 dX7_isCracked_73 (by decide) ?_
                    have hf2 : crkB S pp a b (i + 1) = false := by
                      rw [crkB, hf, Bool.false_or, decide_eq_false_iff_not]
                      intro q
                      rcases q with ⟨q1, q2⟩ | ⟨q1, q2⟩
                      · first | exact c35 q1 | exact c45 q2
                      · first | exact c55 q1 | exact c65 q2
                    exact ih (i + 1) (by omega) (by omega) hf2
                  · skip
                    refine j_iconst hE (nI 1) dX7_isCracked_68 kiconst_1 ?_
                    exact j_zret hE hR dX7_isCracked_69 (by rw [if_pos (crkB_mono c7 (by first | exact Or.inl ⟨c35, c45⟩ | exact Or.inr ⟨c55, c65⟩))]) (rfl) nar_c
  exact L2 (nc + 1) 0 (by omega) (by omega) rfl

set_option maxHeartbeats 4000000 in
set_option maxRecDepth 100000 in
theorem c_X7_resize (l : Launch) (C : JC) (hC : JInj C) (S : Sto) (pp : Nat) (h0 : jsh pp = (0, 6)) (n : Nat) (hn : n < 2 ^ 31) (w : Int32) : Con l C yX7_resize cX7_resize 4 none 1 [.ref (C.2.1 pp), .int (nI n), .int w] S none (rszS S pp (nI n) w n) := by
  refine con_of RX7 1 [some (.ref (C.2.1 pp)), some (.int (nI n)), some (.int w), none] (by decide) rfl hC (Nat.le_of_ble_eq_true rfl) rfl (Nat.le_of_ble_eq_true rfl) (fun E hE hR => ?_)
  refine j_aload0 hE dX7_resize_0 ?_
  refine j_iload1 hE dX7_resize_1 ?_
  refine j_puti hE pX7_41 dX7_resize_2 (by first | assumption | rfl) rfl rfl ?_
  refine j_aload0 hE dX7_resize_5 ?_
  refine j_iload2 hE dX7_resize_6 ?_
  refine j_puti hE pX7_44 dX7_resize_7 (by first | assumption | rfl) rfl rfl ?_
  refine j_aload0 hE dX7_resize_10 ?_
  refine j_iconst hE (nI 1) dX7_resize_11 kiconst_1 ?_
  refine j_iload1 hE dX7_resize_12 ?_
  refine j_iload2 hE dX7_resize_13 ?_
  refine j_imul hE dX7_resize_14 ?_
  refine j_ishl hE dX7_resize_15 ?_
  refine j_iconst hE (nI 1) dX7_resize_16 kiconst_1 ?_
  refine j_isub hE dX7_resize_17 ?_
  refine j_puti hE pX7_47 dX7_resize_18 (by first | assumption | rfl) rfl rfl ?_
  refine j_aload0 hE dX7_resize_21 ?_
  refine j_iconst hE (nI 0) dX7_resize_22 kiconst_0 ?_
  refine j_puti hE pX7_50 dX7_resize_23 (by first | assumption | rfl) rfl rfl ?_
  refine j_iconst hE (nI 0) dX7_resize_26 kiconst_0 ?_
  refine j_istore3 hE dX7_resize_27 rfl ?_
  have L28 : ∀ (fu : Nat) (i : Nat), n - i < fu → (i ≤ n) → J C E (rszS S pp (nI n) w i) 28 [some (.ref (C.2.1 pp)), some (.int (nI n)), some (.int w), some (.int (nI i))] [] := by
    intro fu
    induction fu with
    | zero => intro i hm; omega
    | succ fu ih =>
      intro i hm hi
      refine j_iload3 hE dX7_resize_28 ?_
      refine j_iload1 hE dX7_resize_29 ?_
      refine j_icmpge hE 53 dX7_resize_30 (by decide) (fun c30 => ?_) (fun c30 => ?_)
      · skip
        have c30 := (nI_leI (by omega) (by omega)).mp c30
        have hii : i = n := by omega
        subst hii
        exact j_vret hE hR dX7_resize_53 (rfl)
      · skip
        have c30 : i < n := Nat.lt_of_not_le (fun q => c30 (nI_le q (by omega)))
        refine j_aload0 hE dX7_resize_33 ?_
        refine j_dup hE dX7_resize_34 rfl ?_
        refine j_geti hE fX7_50 dX7_resize_35 (by first | assumption | rfl) ?_
        refine j_iconst hE (nI 1) dX7_resize_38 kiconst_1 ?_
        refine j_iload3 hE dX7_resize_39 ?_
        refine j_iload2 hE dX7_resize_40 ?_
        refine j_imul hE dX7_resize_41 ?_
        refine j_ishl hE dX7_resize_42 ?_
        refine j_ior hE dX7_resize_43 ?_
        refine j_puti hE pX7_50 dX7_resize_44 (by first | assumption | rfl) rfl rfl ?_
        refine j_iinc3 hE (nI (i + 1)) dX7_resize_47 (nI_inc _) rfl ?_
        refine j_goto hE 28 dX7_resize_50 (by decide) ?_
        exact j_cast (rszS_s S pp _ w i) rfl (ih (i + 1) (by omega) (by omega))
  exact L28 (n + 1) 0 (by omega) (by omega)

def clrS (S : Sto) (pp : Nat) : Sto := up2 (up2 (up2 (up2 (rszS S pp (nI 0) (nI 0) 0) pp 7 (nI 0)) pp 8 (nI 0)) pp 9 (nI 0)) pp 10 (nI 0)
set_option maxHeartbeats 4000000 in
set_option maxRecDepth 100000 in
theorem c_X7_clear (l : Launch) (C : JC) (hC : JInj C) (S : Sto) (pp : Nat) (h0 : jsh pp = (0, 6))  : Con l C yX7_clear cX7_clear 1 none 2 [.ref (C.2.1 pp)] S none (clrS S pp) := by
  refine con_of RX7 0 [some (.ref (C.2.1 pp))] (by decide) rfl hC (Nat.le_of_ble_eq_true rfl) rfl (Nat.le_of_ble_eq_true rfl) (fun E hE hR => ?_)
  refine j_aload0 hE dX7_clear_0 ?_
  refine j_iconst hE (nI 0) dX7_clear_1 kiconst_0 ?_
  refine j_iconst hE (nI 0) dX7_clear_2 kiconst_0 ?_
  refine j_V2v hE mX7_24 (c_X7_resize l C hC _ pp h0 0 (by decide) (nI 0)) dX7_clear_3 (by first | assumption | rfl) (by decide) (Nat.le_of_ble_eq_true rfl) ?_
  refine j_aload0 hE dX7_clear_6 ?_
  refine j_iconst hE (nI 0) dX7_clear_7 kiconst_0 ?_
  refine j_puti hE pX7_28 dX7_clear_8 (by first | assumption | rfl) rfl rfl ?_
  refine j_aload0 hE dX7_clear_11 ?_
  refine j_iconst hE (nI 0) dX7_clear_12 kiconst_0 ?_
  refine j_puti hE pX7_32 dX7_clear_13 (by first | assumption | rfl) rfl rfl ?_
  refine j_aload0 hE dX7_clear_16 ?_
  refine j_iconst hE (nI 0) dX7_clear_17 kiconst_0 ?_
  refine j_puti hE pX7_35 dX7_clear_18 (by first | assumption | rfl) rfl rfl ?_
  refine j_aload0 hE dX7_clear_21 ?_
  refine j_iconst hE (nI 0) dX7_clear_22 kiconst_0 ?_
  refine j_puti hE pX7_38 dX7_clear_23 (by first | assumption | rfl) rfl rfl ?_
  exact j_vret hE hR dX7_clear_26 (rfl)

def addLS (S : Sto) (pp : Nat) (x : Int32) : Sto := let T := putS 4 S (pp + 1) (S pp 8) x; up2 T pp 8 (T pp 8 + nI 1)
def addCS (S : Sto) (pp : Nat) (a b : Int32) : Sto := let T := putS 6 S (pp + 2) (S pp 9) a; let U := putS 6 T (pp + 3) (T pp 9) b; up2 U pp 9 (U pp 9 + nI 1)
def addFS (S : Sto) (pp : Nat) (x : Int32) : Sto := let T := putS 5 S (pp + 4) (S pp 10) x; up2 T pp 10 (T pp 10 + nI 1)
set_option maxHeartbeats 4000000 in
set_option maxRecDepth 100000 in
theorem c_X7_addLeak (l : Launch) (C : JC) (hC : JInj C) (S : Sto) (pp : Nat) (h0 : jsh pp = (0, 6)) (h1 : jsh (pp + 1) = (1, 4)) (h2 : jsh (pp + 2) = (1, 6)) (h3 : jsh (pp + 3) = (1, 6)) (h4 : jsh (pp + 4) = (1, 5)) (x : Int32) : Con l C yX7_addLeak cX7_addLeak 2 none 2 [.ref (C.2.1 pp), .int x] S none (addLS S pp x) := by
  refine con_of RX7 0 [some (.ref (C.2.1 pp)), some (.int x)] (by decide) rfl hC (Nat.le_of_ble_eq_true rfl) rfl (Nat.le_of_ble_eq_true rfl) (fun E hE hR => ?_)
  refine j_aload0 hE dX7_addLeak_0 ?_
  refine j_getr hE fX7_9 dX7_addLeak_1 (by first | assumption | rfl) (rf_o (by first | assumption | rfl) (by decide)) ?_
  refine j_aload0 hE dX7_addLeak_4 ?_
  refine j_geti hE fX7_32 dX7_addLeak_5 (by first | assumption | rfl) ?_
  refine j_iload1 hE dX7_addLeak_8 ?_
  refine j_SN3v hE mX7_57 (c_X10_put l C hC _ (pp + 1) 4 h1 (by decide) _ _) dX7_addLeak_9 (by decide) (Nat.le_of_ble_eq_true rfl) ?_
  refine j_aload0 hE dX7_addLeak_12 ?_
  refine j_dup hE dX7_addLeak_13 rfl ?_
  refine j_geti hE fX7_32 dX7_addLeak_14 (by first | assumption | rfl) ?_
  refine j_iconst hE (nI 1) dX7_addLeak_17 kiconst_1 ?_
  refine j_iadd hE dX7_addLeak_18 ?_
  refine j_puti hE pX7_32 dX7_addLeak_19 (by first | assumption | rfl) rfl rfl ?_
  exact j_vret hE hR dX7_addLeak_22 (rfl)

set_option maxHeartbeats 4000000 in
set_option maxRecDepth 100000 in
theorem c_X7_addCrack (l : Launch) (C : JC) (hC : JInj C) (S : Sto) (pp : Nat) (h0 : jsh pp = (0, 6)) (h1 : jsh (pp + 1) = (1, 4)) (h2 : jsh (pp + 2) = (1, 6)) (h3 : jsh (pp + 3) = (1, 6)) (h4 : jsh (pp + 4) = (1, 5)) (a b : Int32) : Con l C yX7_addCrack cX7_addCrack 3 none 2 [.ref (C.2.1 pp), .int a, .int b] S none (addCS S pp a b) := by
  refine con_of RX7 0 [some (.ref (C.2.1 pp)), some (.int a), some (.int b)] (by decide) rfl hC (Nat.le_of_ble_eq_true rfl) rfl (Nat.le_of_ble_eq_true rfl) (fun E hE hR => ?_)
  refine j_aload0 hE dX7_addCrack_0 ?_
  refine j_getr hE fX7_15 dX7_addCrack_1 (by first | assumption | rfl) (rf_o (by first | assumption | rfl) (by decide)) ?_
  refine j_aload0 hE dX7_addCrack_4 ?_
  refine j_geti hE fX7_35 dX7_addCrack_5 (by first | assumption | rfl) ?_
  refine j_iload1 hE dX7_addCrack_8 ?_
  refine j_SN3v hE mX7_57 (c_X10_put l C hC _ (pp + 2) 6 h2 (by decide) _ _) dX7_addCrack_9 (by decide) (Nat.le_of_ble_eq_true rfl) ?_
  refine j_aload0 hE dX7_addCrack_12 ?_
  refine j_getr hE fX7_18 dX7_addCrack_13 (by first | assumption | rfl) (rf_o (by first | assumption | rfl) (by decide)) ?_
  refine j_aload0 hE dX7_addCrack_16 ?_
  refine j_geti hE fX7_35 dX7_addCrack_17 (by first | assumption | rfl) ?_
  refine j_iload2 hE dX7_addCrack_20 ?_
  refine j_SN3v hE mX7_57 (c_X10_put l C hC _ (pp + 3) 6 h3 (by decide) _ _) dX7_addCrack_21 (by decide) (Nat.le_of_ble_eq_true rfl) ?_
  refine j_aload0 hE dX7_addCrack_24 ?_
  refine j_dup hE dX7_addCrack_25 rfl ?_
  refine j_geti hE fX7_35 dX7_addCrack_26 (by first | assumption | rfl) ?_
  refine j_iconst hE (nI 1) dX7_addCrack_29 kiconst_1 ?_
  refine j_iadd hE dX7_addCrack_30 ?_
  refine j_puti hE pX7_35 dX7_addCrack_31 (by first | assumption | rfl) rfl rfl ?_
  exact j_vret hE hR dX7_addCrack_34 (rfl)

set_option maxHeartbeats 4000000 in
set_option maxRecDepth 100000 in
theorem c_X7_addFace (l : Launch) (C : JC) (hC : JInj C) (S : Sto) (pp : Nat) (h0 : jsh pp = (0, 6)) (h1 : jsh (pp + 1) = (1, 4)) (h2 : jsh (pp + 2) = (1, 6)) (h3 : jsh (pp + 3) = (1, 6)) (h4 : jsh (pp + 4) = (1, 5)) (x : Int32) : Con l C yX7_addFace cX7_addFace 2 none 2 [.ref (C.2.1 pp), .int x] S none (addFS S pp x) := by
  refine con_of RX7 0 [some (.ref (C.2.1 pp)), some (.int x)] (by decide) rfl hC (Nat.le_of_ble_eq_true rfl) rfl (Nat.le_of_ble_eq_true rfl) (fun E hE hR => ?_)
  refine j_aload0 hE dX7_addFace_0 ?_
  refine j_getr hE fX7_21 dX7_addFace_1 (by first | assumption | rfl) (rf_o (by first | assumption | rfl) (by decide)) ?_
  refine j_aload0 hE dX7_addFace_4 ?_
  refine j_geti hE fX7_38 dX7_addFace_5 (by first | assumption | rfl) ?_
  refine j_iload1 hE dX7_addFace_8 ?_
  refine j_SN3v hE mX7_57 (c_X10_put l C hC _ (pp + 4) 5 h4 (by decide) _ _) dX7_addFace_9 (by decide) (Nat.le_of_ble_eq_true rfl) ?_
  refine j_aload0 hE dX7_addFace_12 ?_
  refine j_dup hE dX7_addFace_13 rfl ?_
  refine j_geti hE fX7_38 dX7_addFace_14 (by first | assumption | rfl) ?_
  refine j_iconst hE (nI 1) dX7_addFace_17 kiconst_1 ?_
  refine j_iadd hE dX7_addFace_18 ?_
  refine j_puti hE pX7_38 dX7_addFace_19 (by first | assumption | rfl) rfl rfl ?_
  exact j_vret hE hR dX7_addFace_22 (rfl)

abbrev bitP (x k : Int32) : Prop := ¬ (x >>> (k &&& 31)) &&& nI 1 = 0
def marksF (w : Nat → Int32) : Nat → Int32
  | 0 => nI 0
  | n + 1 => if w n < nI 3 then marksF w n else marksF w n ||| (nI 1 <<< (nI n &&& 31))
def wetF (w : Nat → Int32) : Nat → Int32
  | 0 => nI 0
  | n + 1 => wetF w n + w n
set_option maxHeartbeats 4000000 in
set_option maxRecDepth 100000 in
theorem c_X1_isFilled (l : Launch) (C : JC) (hC : JInj C) (S : Sto) (dd : Nat) (g0 : jsh dd = (0, 1)) (g1 : jsh (dd + 1) = (1, 25)) (g2 : jsh (dd + 2) = (1, 4)) (c : Int32) : Con l C yX1_isFilled cX1_isFilled 2 (some .boolean) 1 [.ref (C.2.1 dd), .int c] S (some (.int (if bitP (S dd 3) c then nI 1 else nI 0))) (S) := by
  refine con_of RX1 0 [some (.ref (C.2.1 dd)), some (.int c)] (by decide) rfl hC (Nat.le_of_ble_eq_true rfl) rfl (Nat.le_of_ble_eq_true rfl) (fun E hE hR => ?_)
  refine j_aload0 hE dX1_isFilled_0 ?_
  refine j_geti hE fX1_30 dX1_isFilled_1 (by first | assumption | rfl) ?_
  refine j_iload1 hE dX1_isFilled_4 ?_
  refine j_ishr hE dX1_isFilled_5 ?_
  refine j_iconst hE (nI 1) dX1_isFilled_6 kiconst_1 ?_
  refine j_iand hE dX1_isFilled_7 ?_
  refine j_ifeq hE 15 dX1_isFilled_8 (by decide) (fun c8 => ?_) (fun c8 => ?_)
  · skip
    refine j_iconst hE (nI 0) dX1_isFilled_15 kiconst_0 ?_
    exact j_zret hE hR dX1_isFilled_16 (by first
        | (rw [if_neg (fun q => q c8)]; done)
        | (rw [if_pos c8]; done)) (rfl) nar_c
  · skip
    refine j_iconst hE (nI 1) dX1_isFilled_11 kiconst_1 ?_
    refine j_goto hE 16 dX1_isFilled_12 (by decide) ?_
    exact j_zret hE hR dX1_isFilled_16 (by first
        | (rw [if_neg (fun q => q c8)]; done)
        | (rw [if_pos c8]; done)) (rfl) nar_c

set_option maxHeartbeats 4000000 in
set_option maxRecDepth 100000 in
theorem c_X1_marks (l : Launch) (C : JC) (hC : JInj C) (S : Sto) (dd : Nat) (g0 : jsh dd = (0, 1)) (g1 : jsh (dd + 1) = (1, 25)) (g2 : jsh (dd + 2) = (1, 4))  : Con l C yX1_marks cX1_marks 3 (some .int) 1 [.ref (C.2.1 dd)] S (some (.int (marksF (S (dd + 1)) 25))) (S) := by
  refine con_of RX1 2 [some (.ref (C.2.1 dd)), none, none] (by decide) rfl hC (Nat.le_of_ble_eq_true rfl) rfl (Nat.le_of_ble_eq_true rfl) (fun E hE hR => ?_)
  refine j_iconst hE (nI 0) dX1_marks_0 kiconst_0 ?_
  refine j_istore1 hE dX1_marks_1 rfl ?_
  refine j_iconst hE (nI 0) dX1_marks_2 kiconst_0 ?_
  refine j_istore2 hE dX1_marks_3 rfl ?_
  have L4 : ∀ (fu : Nat) (i : Nat), 25 - i < fu → (i ≤ 25) → J C E S 4 [some (.ref (C.2.1 dd)), some (.int (marksF (S (dd + 1)) i)), some (.int (nI i))] [] := by
    intro fu
    induction fu with
    | zero => intro i hm; omega
    | succ fu ih =>
      intro i hm hi
      refine j_iload2 hE dX1_marks_4 ?_
      refine j_aload0 hE dX1_marks_5 ?_
      refine j_getr hE fX1_9 dX1_marks_6 (by first | assumption | rfl) (rf_o (by first | assumption | rfl) (by decide)) ?_
      refine j_alen hE dX1_marks_9 (nI 25) (by first | assumption | rfl) rfl ?_
      refine j_icmpge hE 35 dX1_marks_10 (by decide) (fun c10 => ?_) (fun c10 => ?_)
      · skip
        have c10 := (nI_leI (by omega) (by omega)).mp c10
        have hii : i = 25 := by omega
        subst hii
        refine j_iload1 hE dX1_marks_35 ?_
        exact j_iret hE hR dX1_marks_36 (rfl) (rfl)
      · skip
        have c10 : i < 25 := Nat.lt_of_not_le (fun q => c10 (nI_le q (by omega)))
        refine j_aload0 hE dX1_marks_13 ?_
        refine j_getr hE fX1_9 dX1_marks_14 (by first | assumption | rfl) (rf_o (by first | assumption | rfl) (by decide)) ?_
        refine j_iload2 hE dX1_marks_17 ?_
        refine j_ialdN hE dX1_marks_18 (by first | assumption | rfl) (by omega) (by decide) ?_
        refine j_iconst hE (nI 3) dX1_marks_19 kiconst_3 ?_
        refine j_icmplt hE 29 dX1_marks_20 (by decide) (fun c20 => ?_) (fun c20 => ?_)
        · skip
          refine j_iinc2 hE (nI (i + 1)) dX1_marks_29 (nI_inc _) rfl ?_
          refine j_goto hE 4 dX1_marks_32 (by decide) ?_
          exact j_cast rfl (by simp only [marksF, c20, if_true, if_false]) (ih (i + 1) (by omega) (by omega))
        · skip
          refine j_iload1 hE dX1_marks_23 ?_
          refine j_iconst hE (nI 1) dX1_marks_24 kiconst_1 ?_
          refine j_iload2 hE dX1_marks_25 ?_
          refine j_ishl hE dX1_marks_26 ?_
          refine j_ior hE dX1_marks_27 ?_
          refine j_istore1 hE dX1_marks_28 rfl ?_
          refine j_iinc2 hE (nI (i + 1)) dX1_marks_29 (nI_inc _) rfl ?_
          refine j_goto hE 4 dX1_marks_32 (by decide) ?_
          exact j_cast rfl (by simp only [marksF, c20, if_true, if_false]) (ih (i + 1) (by omega) (by omega))
  exact L4 26 0 (by omega) (by omega)

set_option maxHeartbeats 4000000 in
set_option maxRecDepth 100000 in
theorem c_X1_markCount (l : Launch) (C : JC) (hC : JInj C) (S : Sto) (dd : Nat) (g0 : jsh dd = (0, 1)) (g1 : jsh (dd + 1) = (1, 25)) (g2 : jsh (dd + 2) = (1, 4))  : Con l C yX1_markCount cX1_markCount 1 (some .int) 2 [.ref (C.2.1 dd)] S (some (.int (bcF (marksF (S (dd + 1)) 25)))) (S) := by
  refine con_of RX1 0 [some (.ref (C.2.1 dd))] (by decide) rfl hC (Nat.le_of_ble_eq_true rfl) rfl (Nat.le_of_ble_eq_true rfl) (fun E hE hR => ?_)
  refine j_aload0 hE dX1_markCount_0 ?_
  refine j_V0i hE mX1_48 (c_X1_marks l C hC _ dd g0 g1 g2) dX1_markCount_1 (by first | assumption | rfl) (by decide) (Nat.le_of_ble_eq_true rfl) ?_
  refine j_S1i hE mX1_52 (c_J6_bitCount_0f7a4 l C hC _ _) dX1_markCount_4 (by decide) (Nat.le_of_ble_eq_true rfl) ?_
  exact j_iret hE hR dX1_markCount_7 (rfl) (rfl)

set_option maxHeartbeats 4000000 in
set_option maxRecDepth 100000 in
theorem c_X1_allWet (l : Launch) (C : JC) (hC : JInj C) (S : Sto) (dd : Nat) (g0 : jsh dd = (0, 1)) (g1 : jsh (dd + 1) = (1, 25)) (g2 : jsh (dd + 2) = (1, 4))  : Con l C yX1_allWet cX1_allWet 3 (some .int) 1 [.ref (C.2.1 dd)] S (some (.int (wetF (S (dd + 1)) 25))) (S) := by
  refine con_of RX1 2 [some (.ref (C.2.1 dd)), none, none] (by decide) rfl hC (Nat.le_of_ble_eq_true rfl) rfl (Nat.le_of_ble_eq_true rfl) (fun E hE hR => ?_)
  refine j_iconst hE (nI 0) dX1_allWet_0 kiconst_0 ?_
  refine j_istore1 hE dX1_allWet_1 rfl ?_
  refine j_iconst hE (nI 0) dX1_allWet_2 kiconst_0 ?_
  refine j_istore2 hE dX1_allWet_3 rfl ?_
  have L4 : ∀ (fu : Nat) (i : Nat), 25 - i < fu → (i ≤ 25) → J C E S 4 [some (.ref (C.2.1 dd)), some (.int (wetF (S (dd + 1)) i)), some (.int (nI i))] [] := by
    intro fu
    induction fu with
    | zero => intro i hm; omega
    | succ fu ih =>
      intro i hm hi
      refine j_iload2 hE dX1_allWet_4 ?_
      refine j_aload0 hE dX1_allWet_5 ?_
      refine j_getr hE fX1_9 dX1_allWet_6 (by first | assumption | rfl) (rf_o (by first | assumption | rfl) (by decide)) ?_
      refine j_alen hE dX1_allWet_9 (nI 25) (by first | assumption | rfl) rfl ?_
      refine j_icmpge hE 28 dX1_allWet_10 (by decide) (fun c10 => ?_) (fun c10 => ?_)
      · skip
        have c10 := (nI_leI (by omega) (by omega)).mp c10
        have hii : i = 25 := by omega
        subst hii
        refine j_iload1 hE dX1_allWet_28 ?_
        exact j_iret hE hR dX1_allWet_29 (rfl) (rfl)
      · skip
        have c10 : i < 25 := Nat.lt_of_not_le (fun q => c10 (nI_le q (by omega)))
        refine j_iload1 hE dX1_allWet_13 ?_
        refine j_aload0 hE dX1_allWet_14 ?_
        refine j_getr hE fX1_9 dX1_allWet_15 (by first | assumption | rfl) (rf_o (by first | assumption | rfl) (by decide)) ?_
        refine j_iload2 hE dX1_allWet_18 ?_
        refine j_ialdN hE dX1_allWet_19 (by first | assumption | rfl) (by omega) (by decide) ?_
        refine j_iadd hE dX1_allWet_20 ?_
        refine j_istore1 hE dX1_allWet_21 rfl ?_
        refine j_iinc2 hE (nI (i + 1)) dX1_allWet_22 (nI_inc _) rfl ?_
        refine j_goto hE 4 dX1_allWet_25 (by decide) ?_
        exact ih (i + 1) (by omega) (by omega)
  exact L4 26 0 (by omega) (by omega)

theorem cpN_s (f g : Nat → Int32) (i : Nat) : upd (cpN i f g) i (f i) = cpN (i + 1) f g := by
  funext j
  unfold upd cpN
  by_cases h : j = i
  · subst h; simp
  · rw [if_neg h]
    by_cases q : j < i
    · rw [if_pos q, if_pos (by omega)]
    · rw [if_neg q, if_neg (by omega)]
theorem cpN_0 (f g : Nat → Int32) : cpN 0 f g = g := by funext j; simp [cpN]
def begS (S : Sto) (dd pp : Nat) : Sto :=
  let T := upA (upA S (dd + 1) (cpN 25 (fun _ => nI 0) (S (dd + 1)))) (dd + 2) (cpN 4 (S (pp + 1)) (S (dd + 2)))
  up2 (up2 (up2 (up2 (up2 T dd 2 (T pp 7)) dd 3 (nI 0)) dd 4 (nI 0)) dd 5 (nI 0)) dd 6 (nI 0)
def copS (S : Sto) (dd ee : Nat) : Sto :=
  let S1 := upA S (dd + 1) (cpN 25 (S (ee + 1)) (S (dd + 1)))
  let S2 := upA S1 (dd + 2) (cpN 4 (S1 (ee + 2)) (S1 (dd + 2)))
  let S3 := up2 S2 dd 2 (S2 ee 2)
  let S4 := up2 S3 dd 3 (S3 ee 3)
  let S5 := up2 S4 dd 4 (S4 ee 4)
  let S6 := up2 S5 dd 5 (S5 ee 5)
  up2 S6 dd 6 (S6 ee 6)
set_option maxHeartbeats 4000000 in
set_option maxRecDepth 100000 in
theorem c_X1_begin (l : Launch) (C : JC) (hC : JInj C) (S : Sto) (dd : Nat) (g0 : jsh dd = (0, 1)) (g1 : jsh (dd + 1) = (1, 25)) (g2 : jsh (dd + 2) = (1, 4)) (pp : Nat) (h0 : jsh pp = (0, 6)) (h1 : jsh (pp + 1) = (1, 4)) (h2 : jsh (pp + 2) = (1, 6)) (h3 : jsh (pp + 3) = (1, 6)) (h4 : jsh (pp + 4) = (1, 5)) (hne : pp + 1 ≠ dd + 1) (hne2 : pp + 1 ≠ dd + 2) : Con l C yX1_begin cX1_begin 3 none 2 [.ref (C.2.1 dd), .ref (C.2.1 pp)] S none (begS S dd pp) := by
  refine con_of RX1 1 [some (.ref (C.2.1 dd)), some (.ref (C.2.1 pp)), none] (by decide) rfl hC (Nat.le_of_ble_eq_true rfl) rfl (Nat.le_of_ble_eq_true rfl) (fun E hE hR => ?_)
  refine j_iconst hE (nI 0) dX1_begin_0 kiconst_0 ?_
  refine j_istore2 hE dX1_begin_1 rfl ?_
  have L2 : ∀ (fu : Nat) (i : Nat), 25 - i < fu → (i ≤ 25) → J C E (upA S (dd + 1) (cpN i (fun _ => nI 0) (S (dd + 1)))) 2 [some (.ref (C.2.1 dd)), some (.ref (C.2.1 pp)), some (.int (nI i))] [] := by
    intro fu
    induction fu with
    | zero => intro i hm; omega
    | succ fu ih =>
      intro i hm hi
      refine j_iload2 hE dX1_begin_2 ?_
      refine j_aload0 hE dX1_begin_3 ?_
      refine j_getr hE fX1_9 dX1_begin_4 (by first | assumption | rfl) (rf_o (by first | assumption | rfl) (by decide)) ?_
      refine j_alen hE dX1_begin_7 (nI 25) (by first | assumption | rfl) rfl ?_
      refine j_icmpge hE 24 dX1_begin_8 (by decide) (fun c8 => ?_) (fun c8 => ?_)
      · skip
        have c8 := (nI_leI (by omega) (by omega)).mp c8
        have hii : i = 25 := by omega
        subst hii
        refine j_iconst hE (nI 0) dX1_begin_24 kiconst_0 ?_
        refine j_istore2 hE dX1_begin_25 rfl ?_
        have L26 : ∀ (fu : Nat) (i : Nat), 4 - i < fu → (i ≤ 4) → J C E (upA (upA S (dd + 1) (cpN 25 (fun _ => nI 0) (S (dd + 1)))) (dd + 2) (cpN i (S (pp + 1)) (S (dd + 2)))) 26 [some (.ref (C.2.1 dd)), some (.ref (C.2.1 pp)), some (.int (nI i))] [] := by
          intro fu
          induction fu with
          | zero => intro i hm; omega
          | succ fu ih_ =>
            intro i hm hi
            refine j_iload2 hE dX1_begin_26 ?_
            refine j_aload0 hE dX1_begin_27 ?_
            refine j_getr hE fX1_15 dX1_begin_28 (by first | assumption | rfl) (rf_o (by first | assumption | rfl) (by decide)) ?_
            refine j_alen hE dX1_begin_31 (nI 4) (by first | assumption | rfl) rfl ?_
            refine j_icmpge hE 55 dX1_begin_32 (by decide) (fun c32 => ?_) (fun c32 => ?_)
            · skip
              have c32 := (nI_leI (by omega) (by omega)).mp c32
              have hii : i = 4 := by omega
              subst hii
              refine j_aload0 hE dX1_begin_55 ?_
              refine j_aload1 hE dX1_begin_56 ?_
              refine j_geti hE fX1_25 dX1_begin_57 (by first | assumption | rfl) ?_
              refine j_puti hE pX1_29 dX1_begin_60 (by first | assumption | rfl) rfl rfl ?_
              refine j_aload0 hE dX1_begin_63 ?_
              refine j_iconst hE (nI 0) dX1_begin_64 kiconst_0 ?_
              refine j_puti hE pX1_30 dX1_begin_65 (by first | assumption | rfl) rfl rfl ?_
              refine j_aload0 hE dX1_begin_68 ?_
              refine j_iconst hE (nI 0) dX1_begin_69 kiconst_0 ?_
              refine j_puti hE pX1_33 dX1_begin_70 (by first | assumption | rfl) rfl rfl ?_
              refine j_aload0 hE dX1_begin_73 ?_
              refine j_iconst hE (nI 0) dX1_begin_74 kiconst_0 ?_
              refine j_puti hE pX1_36 dX1_begin_75 (by first | assumption | rfl) rfl rfl ?_
              refine j_aload0 hE dX1_begin_78 ?_
              refine j_iconst hE (nI 0) dX1_begin_79 kiconst_0 ?_
              refine j_puti hE pX1_39 dX1_begin_80 (by first | assumption | rfl) rfl rfl ?_
              exact j_vret hE hR dX1_begin_83 (rfl)
            · skip
              have c32 : i < 4 := Nat.lt_of_not_le (fun q => c32 (nI_le q (by omega)))
              refine j_aload0 hE dX1_begin_35 ?_
              refine j_getr hE fX1_15 dX1_begin_36 (by first | assumption | rfl) (rf_o (by first | assumption | rfl) (by decide)) ?_
              refine j_iload2 hE dX1_begin_39 ?_
              refine j_aload1 hE dX1_begin_40 ?_
              refine j_getr hE fX1_18 dX1_begin_41 (by first | assumption | rfl) (rf_o (by first | assumption | rfl) (by decide)) ?_
              refine j_iload2 hE dX1_begin_44 ?_
              refine j_SN2i hE mX1_21 (c_X10_pick l C hC _ (pp + 1) 4 h1 (by decide) (nI i)) dX1_begin_45 (by decide) (Nat.le_of_ble_eq_true rfl) ?_
              refine j_top (pickN (by omega) (by decide)) ?_
              refine j_iastN hE dX1_begin_48 (by first | assumption | rfl) (by omega) (by decide) ?_
              refine j_iinc2 hE (nI (i + 1)) dX1_begin_49 (nI_inc _) rfl ?_
              refine j_goto hE 26 dX1_begin_52 (by decide) ?_
              exact j_cast (by rw [up2_upA, upA_ne _ _ hne2, upA_ne _ _ hne, cpN_s]) rfl (ih_ (i + 1) (by omega) (by omega))
        exact j_cast (by rw [cpN_0]; exact (upA_ne_self _ _ (by omega)).symm) rfl (L26 5 0 (by omega) (by omega))
      · skip
        have c8 : i < 25 := Nat.lt_of_not_le (fun q => c8 (nI_le q (by omega)))
        refine j_aload0 hE dX1_begin_11 ?_
        refine j_getr hE fX1_9 dX1_begin_12 (by first | assumption | rfl) (rf_o (by first | assumption | rfl) (by decide)) ?_
        refine j_iload2 hE dX1_begin_15 ?_
        refine j_iconst hE (nI 0) dX1_begin_16 kiconst_0 ?_
        refine j_iastN hE dX1_begin_17 (by first | assumption | rfl) (by omega) (by decide) ?_
        refine j_iinc2 hE (nI (i + 1)) dX1_begin_18 (nI_inc _) rfl ?_
        refine j_goto hE 2 dX1_begin_21 (by decide) ?_
        exact j_cast (by rw [up2_upA, cpN_s]) rfl (ih (i + 1) (by omega) (by omega))
  exact j_cast (by rw [cpN_0, upA_self]) rfl (L2 26 0 (by omega) (by omega))

set_option maxHeartbeats 4000000 in
set_option maxRecDepth 100000 in
theorem c_X1_copyFrom (l : Launch) (C : JC) (hC : JInj C) (S : Sto) (dd : Nat) (g0 : jsh dd = (0, 1)) (g1 : jsh (dd + 1) = (1, 25)) (g2 : jsh (dd + 2) = (1, 4)) (ee : Nat) (e0 : jsh ee = (0, 1)) (e1 : jsh (ee + 1) = (1, 25)) (e2 : jsh (ee + 2) = (1, 4))  : Con l C yX1_copyFrom cX1_copyFrom 2 none 2 [.ref (C.2.1 dd), .ref (C.2.1 ee)] S none (copS S dd ee) := by
  refine con_of RX1 0 [some (.ref (C.2.1 dd)), some (.ref (C.2.1 ee))] (by decide) rfl hC (Nat.le_of_ble_eq_true rfl) rfl (Nat.le_of_ble_eq_true rfl) (fun E hE hR => ?_)
  refine j_aload1 hE dX1_copyFrom_0 ?_
  refine j_getr hE fX1_9 dX1_copyFrom_1 (by first | assumption | rfl) (rf_o (by first | assumption | rfl) (by decide)) ?_
  refine j_iconst hE (nI 0) dX1_copyFrom_4 kiconst_0 ?_
  refine j_aload0 hE dX1_copyFrom_5 ?_
  refine j_getr hE fX1_9 dX1_copyFrom_6 (by first | assumption | rfl) (rf_o (by first | assumption | rfl) (by decide)) ?_
  refine j_iconst hE (nI 0) dX1_copyFrom_9 kiconst_0 ?_
  refine j_bipush hE (nI 25) dX1_copyFrom_10 kbipush_25 ?_
  refine j_copy hE mX1_42 ac_n ac_s ac_i dX1_copyFrom_12 25 (by decide) (by first | assumption | rfl) (by first | assumption | rfl) (by decide) (by decide) (by decide) (by decide) ?_
  refine j_aload1 hE dX1_copyFrom_15 ?_
  refine j_getr hE fX1_15 dX1_copyFrom_16 (by first | assumption | rfl) (rf_o (by first | assumption | rfl) (by decide)) ?_
  refine j_iconst hE (nI 0) dX1_copyFrom_19 kiconst_0 ?_
  refine j_aload0 hE dX1_copyFrom_20 ?_
  refine j_getr hE fX1_15 dX1_copyFrom_21 (by first | assumption | rfl) (rf_o (by first | assumption | rfl) (by decide)) ?_
  refine j_iconst hE (nI 0) dX1_copyFrom_24 kiconst_0 ?_
  refine j_iconst hE (nI 4) dX1_copyFrom_25 kiconst_4 ?_
  refine j_copy hE mX1_42 ac_n ac_s ac_i dX1_copyFrom_26 4 (by decide) (by first | assumption | rfl) (by first | assumption | rfl) (by decide) (by decide) (by decide) (by decide) ?_
  refine j_aload0 hE dX1_copyFrom_29 ?_
  refine j_aload1 hE dX1_copyFrom_30 ?_
  refine j_geti hE fX1_29 dX1_copyFrom_31 (by first | assumption | rfl) ?_
  refine j_puti hE pX1_29 dX1_copyFrom_34 (by first | assumption | rfl) rfl rfl ?_
  refine j_aload0 hE dX1_copyFrom_37 ?_
  refine j_aload1 hE dX1_copyFrom_38 ?_
  refine j_geti hE fX1_30 dX1_copyFrom_39 (by first | assumption | rfl) ?_
  refine j_puti hE pX1_30 dX1_copyFrom_42 (by first | assumption | rfl) rfl rfl ?_
  refine j_aload0 hE dX1_copyFrom_45 ?_
  refine j_aload1 hE dX1_copyFrom_46 ?_
  refine j_geti hE fX1_33 dX1_copyFrom_47 (by first | assumption | rfl) ?_
  refine j_puti hE pX1_33 dX1_copyFrom_50 (by first | assumption | rfl) rfl rfl ?_
  refine j_aload0 hE dX1_copyFrom_53 ?_
  refine j_aload1 hE dX1_copyFrom_54 ?_
  refine j_geti hE fX1_36 dX1_copyFrom_55 (by first | assumption | rfl) ?_
  refine j_puti hE pX1_36 dX1_copyFrom_58 (by first | assumption | rfl) rfl rfl ?_
  refine j_aload0 hE dX1_copyFrom_61 ?_
  refine j_aload1 hE dX1_copyFrom_62 ?_
  refine j_geti hE fX1_39 dX1_copyFrom_63 (by first | assumption | rfl) ?_
  refine j_puti hE pX1_39 dX1_copyFrom_66 (by first | assumption | rfl) rfl rfl ?_
  exact j_vret hE hR dX1_copyFrom_69 (rfl)

def lcg (s : Int32) : Int32 := (s * 1103515245 + nI 12345) &&& 2147483647
def drawF (s n : Int32) : Int32 := if n ≤ 0 then nI 0 else s / 65536 - s / 65536 / n * n
set_option maxHeartbeats 4000000 in
set_option maxRecDepth 100000 in
theorem c_X2_draw (l : Launch) (C : JC) (hC : JInj C) (S : Sto) (n : Int32) : Con l C yX2_draw cX2_draw 2 (some .int) 1 [.ref (C.2.1 94), .int n] S (some (.int (drawF (lcg (S 94 0)) n))) (up2 S 94 0 (lcg (S 94 0))) := by
  refine con_of RX2 0 [some (.ref (C.2.1 94)), some (.int n)] (by decide) rfl hC (Nat.le_of_ble_eq_true rfl) rfl (Nat.le_of_ble_eq_true rfl) (fun E hE hR => ?_)
  refine j_aload0 hE dX2_draw_0 ?_
  refine j_aload0 hE dX2_draw_1 ?_
  refine j_geti hE fX2_7 dX2_draw_2 (by first | assumption | rfl) ?_
  refine j_ldc hE dX2_draw_5 kX2_13 ?_
  refine j_imul hE dX2_draw_7 ?_
  refine j_sipush hE (nI 12345) dX2_draw_8 ksipush_12345 ?_
  refine j_iadd hE dX2_draw_11 ?_
  refine j_ldc hE dX2_draw_12 kX2_14 ?_
  refine j_iand hE dX2_draw_14 ?_
  refine j_puti hE pX2_7 dX2_draw_15 (by first | assumption | rfl) rfl rfl ?_
  refine j_iload1 hE dX2_draw_18 ?_
  refine j_ifle hE 34 dX2_draw_19 (by decide) (fun c19 => ?_) (fun c19 => ?_)
  · skip
    refine j_iconst hE (nI 0) dX2_draw_34 kiconst_0 ?_
    exact j_iret hE hR dX2_draw_35 (by first | (rw [drawF, if_pos c19]; done) | (rw [drawF, if_neg c19]; rfl)) (rfl)
  · skip
    refine j_aload0 hE dX2_draw_22 ?_
    refine j_geti hE fX2_7 dX2_draw_23 (by first | assumption | rfl) ?_
    refine j_ldc hE dX2_draw_26 kX2_15 ?_
    refine j_idiv hE dX2_draw_28 (by decide) ?_
    refine j_iload1 hE dX2_draw_29 ?_
    refine j_irem hE dX2_draw_30 (fun q => c19 (by rw [q]; decide)) ?_
    refine j_goto hE 35 dX2_draw_31 (by decide) ?_
    exact j_iret hE hR dX2_draw_35 (by first | (rw [drawF, if_pos c19]; done) | (rw [drawF, if_neg c19]; rfl)) (rfl)

