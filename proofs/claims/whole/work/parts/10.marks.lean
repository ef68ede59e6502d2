def besF (S : Sto) (pp : Nat) (set side : Int32) : Int32 := if side = nI 0 then (set <<< (S pp 5 &&& 31)) &&& plAll S pp else if side = nI 1 then set >>> (S pp 5 &&& 31) else if side = nI 2 then ((set <<< (nI 1 &&& 31)) &&& plAll S pp) &&& (S pp 6 ^^^ (-1)) else (set &&& (S pp 6 ^^^ (-1))) >>> (nI 1 &&& 31)
theorem sw3_n0 {x : Int32} (h : x.toInt < 0 ∨ 2 < x.toInt) : ¬ x = nI 0 ∧ ¬ x = nI 1 ∧ ¬ x = nI 2 := by
  refine ⟨fun q => ?_, fun q => ?_, fun q => ?_⟩ <;> subst q <;> exact absurd h (by decide)
def lnF (S : Sto) (pp : Nat) (m : Int32) : Nat → Int32 × Int32
  | 0 => (nI 0, nI 0)
  | n + 1 => ((lnF S pp m n).1 ||| besF S pp m (nI n), (lnF S pp m n).2 ||| ((lnF S pp m n).1 &&& besF S pp m (nI n)))
def lonF (S : Sto) (pp : Nat) (m : Int32) : Int32 := m &&& ((lnF S pp m 4).2 ^^^ (-1))
def bdF (S : Sto) (pp : Nat) (m : Int32) : Nat → Int32
  | 0 => nI 0
  | n + 1 => bdF S pp m n + bcF (m &&& (besF S pp m (nI n) ^^^ (-1)))
def grF (S : Sto) (pp : Nat) (m g : Int32) : Nat → Int32
  | 0 => g
  | n + 1 => grF S pp m g n ||| (besF S pp g (nI n) &&& m)
def gpF (S : Sto) (pp : Nat) (m : Int32) : Nat → Int32 → Int32
  | 0, g => g
  | n + 1, g => if grF S pp m g 4 = g then g else gpF S pp m n (grF S pp m g 4)
def grpF (S : Sto) (pp : Nat) (m x : Int32) : Int32 := gpF S pp m 25 (nI 1 <<< (x &&& 31))
def gsF (S : Sto) (pp : Nat) (m : Int32) : Nat → Int32 × Int32
  | 0 => (m, nI 0)
  | n + 1 => if bitP (gsF S pp m n).1 (nI n) then ((gsF S pp m n).1 &&& (grpF S pp m (nI n) ^^^ (-1)), (gsF S pp m n).2 + Int32.ofInt 1) else gsF S pp m n
def ggF (S : Sto) (pp : Nat) (m : Int32) : Nat → Int32 × Int32
  | 0 => (m, nI 0)
  | n + 1 => if bitP (ggF S pp m n).1 (nI n) then ((ggF S pp m n).1 &&& (grpF S pp m (nI n) ^^^ (-1)), if bcF (grpF S pp m (nI n)) ≤ bcF (ggF S pp m n).2 then (ggF S pp m n).2 else grpF S pp m (nI n)) else ggF S pp m n
def inRow (S : Sto) (pp : Nat) (m : Int32) (n : Nat) : Int32 := (m >>> ((nI n * S pp 5) &&& 31)) &&& ((nI 1 <<< (S pp 5 &&& 31)) - nI 1)
def fuF (S : Sto) (pp : Nat) (m : Int32) : Nat → Int32 × Int32
  | 0 => (-1, nI 0)
  | n + 1 => if bcF (inRow S pp m n) ≤ (fuF S pp m n).2 then fuF S pp m n else (nI n, bcF (inRow S pp m n))
def likF (S : Sto) (pp : Nat) (m f : Int32) : Int32 := plCells S pp - bcF (m ^^^ f)
def whF (S : Sto) (pp : Nat) (m : Int32) : Nat → Int32 × Int32
  | 0 => (-1, -1)
  | n + 1 => if likF S pp m (pickF 5 (S (pp + 4)) (nI n)) ≤ (whF S pp m n).2 then whF S pp m n else (nI n, likF S pp m (pickF 5 (S (pp + 4)) (nI n)))
def mbF (S : Sto) (pp : Nat) (m : Int32) : Nat → Int32
  | 0 => nI 0
  | n + 1 => if m &&& (pickF 5 (S (pp + 4)) (nI n) ^^^ (-1)) = 0 then mbF S pp m n ||| (nI 1 <<< (nI n &&& 31)) else mbF S pp m n
def shrW (lon : Int32) (w : Nat → Int32) (n : Nat) : Nat → Int32 := fun j => if j < n ∧ bitP lon (nI j) then w j - nI 2 else w j
theorem shrW_0 (lon : Int32) (w : Nat → Int32) : shrW lon w 0 = w := by funext j; simp [shrW]
theorem shrW_t {lon : Int32} {w : Nat → Int32} {i : Nat} (h : bitP lon (nI i)) : upd (shrW lon w i) i (shrW lon w i i - nI 2) = shrW lon w (i + 1) := by
  funext j
  unfold upd
  by_cases q : j = i
  · subst q
    rw [if_pos rfl]
    unfold shrW
    rw [if_neg (by omega), if_pos ⟨by omega, h⟩]
  · rw [if_neg q]
    unfold shrW
    by_cases z : j < i ∧ bitP lon (nI j)
    · rw [if_pos z, if_pos ⟨by omega, z.2⟩]
    · rw [if_neg z, if_neg (fun y => z ⟨by omega, y.2⟩)]
theorem shrW_f {lon : Int32} {w : Nat → Int32} {i : Nat} (h : ¬ bitP lon (nI i)) : shrW lon w i = shrW lon w (i + 1) := by
  funext j
  unfold shrW
  by_cases z : j < i ∧ bitP lon (nI j)
  · rw [if_pos z, if_pos ⟨by omega, z.2⟩]
  · rw [if_neg z, if_neg (fun y => z ⟨by
      rcases Nat.lt_or_ge j i with q | q
      · exact q
      · have : j = i := by omega
        subst this
        exact absurd y.2 h, y.2⟩)]
def shrS (S : Sto) (dd pp : Nat) : Sto := let T := upA S (dd + 1) (shrW (lonF S pp (marksF (S (dd + 1)) 25)) (S (dd + 1)) 25); up2 T dd 5 (T dd 5 + nI 1)
set_option maxHeartbeats 4000000 in
set_option maxRecDepth 100000 in
theorem c_X5_besideSet (l : Launch) (C : JC) (hC : JInj C) (S : Sto) (pp : Nat) (h0 : jsh pp = (0, 6)) (set side : Int32) : Con l C yX5_besideSet cX5_besideSet 3 (some .int) 3 [.ref (C.2.1 pp), .int set, .int side] S (some (.int (besF S pp set side))) (S) := by
  refine con_of RX5 0 [some (.ref (C.2.1 pp)), some (.int set), some (.int side)] (by decide) rfl hC (Nat.le_of_ble_eq_true rfl) rfl (Nat.le_of_ble_eq_true rfl) (fun E hE hR => ?_)
  refine j_iload2 hE dX5_besideSet_0 ?_
  rcases sw_3 (side) with cs | cs | cs | cs
  · refine j_tabC hE 28 0 dX5_besideSet_1 cs (by decide) (by decide) rfl (by decide) ?_
    subst cs
    refine j_iload1 hE dX5_besideSet_28 ?_
    refine j_aload0 hE dX5_besideSet_29 ?_
    refine j_geti hE fX5_9 dX5_besideSet_30 (by first | assumption | rfl) ?_
    refine j_ishl hE dX5_besideSet_33 ?_
    refine j_aload0 hE dX5_besideSet_34 ?_
    refine j_geti hE fX5_15 dX5_besideSet_35 (by first | assumption | rfl) ?_
    refine j_iand hE dX5_besideSet_38 ?_
    exact j_iret hE hR dX5_besideSet_39 (rfl) (rfl)
  · refine j_tabC hE 40 1 dX5_besideSet_1 cs (by decide) (by decide) rfl (by decide) ?_
    subst cs
    refine j_iload1 hE dX5_besideSet_40 ?_
    refine j_aload0 hE dX5_besideSet_41 ?_
    refine j_geti hE fX5_9 dX5_besideSet_42 (by first | assumption | rfl) ?_
    refine j_ishr hE dX5_besideSet_45 ?_
    exact j_iret hE hR dX5_besideSet_46 (by rw [besF, if_neg (by decide), if_pos rfl]) (rfl)
  · refine j_tabC hE 47 2 dX5_besideSet_1 cs (by decide) (by decide) rfl (by decide) ?_
    subst cs
    refine j_iload1 hE dX5_besideSet_47 ?_
    refine j_iconst hE (nI 1) dX5_besideSet_48 kiconst_1 ?_
    refine j_ishl hE dX5_besideSet_49 ?_
    refine j_aload0 hE dX5_besideSet_50 ?_
    refine j_geti hE fX5_15 dX5_besideSet_51 (by first | assumption | rfl) ?_
    refine j_iand hE dX5_besideSet_54 ?_
    refine j_aload0 hE dX5_besideSet_55 ?_
    refine j_geti hE fX5_18 dX5_besideSet_56 (by first | assumption | rfl) ?_
    refine j_iconst hE (-1) dX5_besideSet_59 kiconst_m1 ?_
    refine j_ixor hE dX5_besideSet_60 ?_
    refine j_iand hE dX5_besideSet_61 ?_
    exact j_iret hE hR dX5_besideSet_62 (by rw [besF, if_neg (by decide), if_neg (by decide), if_pos rfl]) (rfl)
  · refine j_tabOut hE 63 dX5_besideSet_1 (sw_out cs) (by decide) ?_
    refine j_iload1 hE dX5_besideSet_63 ?_
    refine j_aload0 hE dX5_besideSet_64 ?_
    refine j_geti hE fX5_18 dX5_besideSet_65 (by first | assumption | rfl) ?_
    refine j_iconst hE (-1) dX5_besideSet_68 kiconst_m1 ?_
    refine j_ixor hE dX5_besideSet_69 ?_
    refine j_iand hE dX5_besideSet_70 ?_
    refine j_iconst hE (nI 1) dX5_besideSet_71 kiconst_1 ?_
    refine j_ishr hE dX5_besideSet_72 ?_
    exact j_iret hE hR dX5_besideSet_73 (by rw [besF, if_neg (sw3_n0 cs).1, if_neg (sw3_n0 cs).2.1, if_neg (sw3_n0 cs).2.2]) (rfl)

set_option maxHeartbeats 4000000 in
set_option maxRecDepth 100000 in
theorem c_X5_lonely (l : Launch) (C : JC) (hC : JInj C) (S : Sto) (pp : Nat) (h0 : jsh pp = (0, 6)) (m : Int32) : Con l C yX5_lonely cX5_lonely 6 (some .int) 4 [.ref (C.2.1 pp), .int m] S (some (.int (lonF S pp m))) (S) := by
  refine con_of RX5 4 [some (.ref (C.2.1 pp)), some (.int m), none, none, none, none] (by decide) rfl hC (Nat.le_of_ble_eq_true rfl) rfl (Nat.le_of_ble_eq_true rfl) (fun E hE hR => ?_)
  refine j_iconst hE (nI 0) dX5_lonely_0 kiconst_0 ?_
  refine j_istore2 hE dX5_lonely_1 rfl ?_
  refine j_iconst hE (nI 0) dX5_lonely_2 kiconst_0 ?_
  refine j_istore3 hE dX5_lonely_3 rfl ?_
  refine j_iconst hE (nI 0) dX5_lonely_4 kiconst_0 ?_
  refine j_istore4 hE dX5_lonely_5 rfl ?_
  have L7 : ∀ (fu : Nat) (i : Nat) (x5 : Option Value), 4 - i < fu → (i ≤ 4) → (x5 = x5) → J C E S 7 [some (.ref (C.2.1 pp)), some (.int m), some (.int (lnF S pp m i).1), some (.int (lnF S pp m i).2), some (.int (nI i)), x5] [] := by
    intro fu
    induction fu with
    | zero => intro i x5 hm; omega
    | succ fu ih =>
      intro i x5 hm hi _
      refine j_iload4 hE dX5_lonely_7 ?_
      refine j_iconst hE (nI 4) dX5_lonely_9 kiconst_4 ?_
      refine j_icmpge hE 40 dX5_lonely_10 (by decide) (fun c10 => ?_) (fun c10 => ?_)
      · skip
        have c10 := (nI_leI (by omega) (by omega)).mp c10
        have hii : i = 4 := by omega
        subst hii
        refine j_iload1 hE dX5_lonely_40 ?_
        refine j_iload3 hE dX5_lonely_41 ?_
        refine j_iconst hE (-1) dX5_lonely_42 kiconst_m1 ?_
        refine j_ixor hE dX5_lonely_43 ?_
        refine j_iand hE dX5_lonely_44 ?_
        exact j_iret hE hR dX5_lonely_45 (rfl) (rfl)
      · skip
        have c10 : i < 4 := Nat.lt_of_not_le (fun q => c10 (nI_le q (by omega)))
        refine j_aload0 hE dX5_lonely_13 ?_
        refine j_iload1 hE dX5_lonely_14 ?_
        refine j_iload4 hE dX5_lonely_15 ?_
        refine j_S3i hE mX5_21 (c_X5_besideSet l C hC _ pp h0 _ _) dX5_lonely_17 (by decide) (Nat.le_of_ble_eq_true rfl) ?_
        refine j_istore5 hE dX5_lonely_20 rfl ?_
        refine j_iload3 hE dX5_lonely_22 ?_
        refine j_iload2 hE dX5_lonely_23 ?_
        refine j_iload5 hE dX5_lonely_24 ?_
        refine j_iand hE dX5_lonely_26 ?_
        refine j_ior hE dX5_lonely_27 ?_
        refine j_istore3 hE dX5_lonely_28 rfl ?_
        refine j_iload2 hE dX5_lonely_29 ?_
        refine j_iload5 hE dX5_lonely_30 ?_
        refine j_ior hE dX5_lonely_32 ?_
        refine j_istore2 hE dX5_lonely_33 rfl ?_
        refine j_iinc4 hE (nI (i + 1)) dX5_lonely_34 (nI_inc _) rfl ?_
        refine j_goto hE 7 dX5_lonely_37 (by decide) ?_
        exact ih (i + 1) _ (by omega) (by omega) rfl
  exact L7 5 0 none (by omega) (by omega) rfl

set_option maxHeartbeats 4000000 in
set_option maxRecDepth 100000 in
theorem c_X5_border (l : Launch) (C : JC) (hC : JInj C) (S : Sto) (pp : Nat) (h0 : jsh pp = (0, 6)) (m : Int32) : Con l C yX5_border cX5_border 4 (some .int) 4 [.ref (C.2.1 pp), .int m] S (some (.int (bdF S pp m 4))) (S) := by
  refine con_of RX5 2 [some (.ref (C.2.1 pp)), some (.int m), none, none] (by decide) rfl hC (Nat.le_of_ble_eq_true rfl) rfl (Nat.le_of_ble_eq_true rfl) (fun E hE hR => ?_)
  refine j_iconst hE (nI 0) dX5_border_0 kiconst_0 ?_
  refine j_istore2 hE dX5_border_1 rfl ?_
  refine j_iconst hE (nI 0) dX5_border_2 kiconst_0 ?_
  refine j_istore3 hE dX5_border_3 rfl ?_
  have L4 : ∀ (fu : Nat) (i : Nat), 4 - i < fu → (i ≤ 4) → J C E S 4 [some (.ref (C.2.1 pp)), some (.int m), some (.int (bdF S pp m i)), some (.int (nI i))] [] := by
    intro fu
    induction fu with
    | zero => intro i hm; omega
    | succ fu ih =>
      intro i hm hi
      refine j_iload3 hE dX5_border_4 ?_
      refine j_iconst hE (nI 4) dX5_border_5 kiconst_4 ?_
      refine j_icmpge hE 31 dX5_border_6 (by decide) (fun c6 => ?_) (fun c6 => ?_)
      · skip
        have c6 := (nI_leI (by omega) (by omega)).mp c6
        have hii : i = 4 := by omega
        subst hii
        refine j_iload2 hE dX5_border_31 ?_
        exact j_iret hE hR dX5_border_32 (rfl) (rfl)
      · skip
        have c6 : i < 4 := Nat.lt_of_not_le (fun q => c6 (nI_le q (by omega)))
        refine j_iload2 hE dX5_border_9 ?_
        refine j_iload1 hE dX5_border_10 ?_
        refine j_aload0 hE dX5_border_11 ?_
        refine j_iload1 hE dX5_border_12 ?_
        refine j_iload3 hE dX5_border_13 ?_
        refine j_S3i hE mX5_21 (c_X5_besideSet l C hC _ pp h0 _ _) dX5_border_14 (by decide) (Nat.le_of_ble_eq_true rfl) ?_
        refine j_iconst hE (-1) dX5_border_17 kiconst_m1 ?_
        refine j_ixor hE dX5_border_18 ?_
        refine j_iand hE dX5_border_19 ?_
        refine j_S1i hE mX5_27 (c_J6_bitCount_0f7a4 l C hC _ _) dX5_border_20 (by decide) (Nat.le_of_ble_eq_true rfl) ?_
        refine j_iadd hE dX5_border_23 ?_
        refine j_istore2 hE dX5_border_24 rfl ?_
        refine j_iinc3 hE (nI (i + 1)) dX5_border_25 (nI_inc _) rfl ?_
        refine j_goto hE 4 dX5_border_28 (by decide) ?_
        exact ih (i + 1) (by omega) (by omega)
  exact L4 5 0 (by omega) (by omega)

set_option maxHeartbeats 4000000 in
set_option maxRecDepth 100000 in
theorem c_X5_groupOf (l : Launch) (C : JC) (hC : JInj C) (S : Sto) (pp : Nat) (h0 : jsh pp = (0, 6)) (m x : Int32) : Con l C yX5_groupOf cX5_groupOf 7 (some .int) 4 [.ref (C.2.1 pp), .int m, .int x] S (some (.int (grpF S pp m x))) (S) := by
  refine con_of RX5 4 [some (.ref (C.2.1 pp)), some (.int m), some (.int x), none, none, none, none] (by decide) rfl hC (Nat.le_of_ble_eq_true rfl) rfl (Nat.le_of_ble_eq_true rfl) (fun E hE hR => ?_)
  refine j_iconst hE (nI 1) dX5_groupOf_0 kiconst_1 ?_
  refine j_iload2 hE dX5_groupOf_1 ?_
  refine j_ishl hE dX5_groupOf_2 ?_
  refine j_istore3 hE dX5_groupOf_3 rfl ?_
  refine j_iconst hE (nI 0) dX5_groupOf_4 kiconst_0 ?_
  refine j_istore4 hE dX5_groupOf_5 rfl ?_
  have L7 : ∀ (fu : Nat) (i : Nat) (g : Int32) (x5 x6 : Option Value), 25 - i < fu → (i ≤ 25) → (gpF S pp m (25 - i) g = grpF S pp m x) → J C E S 7 [some (.ref (C.2.1 pp)), some (.int m), some (.int x), some (.int g), some (.int (nI i)), x5, x6] [] := by
    intro fu
    induction fu with
    | zero => intro i g x5 x6 hm; omega
    | succ fu ih =>
      intro i g x5 x6 hm hi hg
      refine j_iload4 hE dX5_groupOf_7 ?_
      refine j_bipush hE (nI 25) dX5_groupOf_9 kbipush_25 ?_
      refine j_icmpge hE 64 dX5_groupOf_11 (by decide) (fun c11 => ?_) (fun c11 => ?_)
      · skip
        have c11 := (nI_leI (by omega) (by omega)).mp c11
        have hii : i = 25 := by omega
        subst hii
        refine j_iload3 hE dX5_groupOf_64 ?_
        exact j_iret hE hR dX5_groupOf_65 (by first
            | (rw [← hg, show 25 - i = (25 - (i + 1)) + 1 by omega, gpF, if_pos c49]; done)
            | (rw [← hg]; rfl)) (rfl)
      · skip
        have c11 : i < 25 := Nat.lt_of_not_le (fun q => c11 (nI_le q (by omega)))
        refine j_iload3 hE dX5_groupOf_14 ?_
        refine j_istore5 hE dX5_groupOf_15 rfl ?_
        refine j_iconst hE (nI 0) dX5_groupOf_17 kiconst_0 ?_
        refine j_istore6 hE dX5_groupOf_18 rfl ?_
        have L20 : ∀ (fu : Nat) (j : Nat) (x6 : Option Value), 4 - j < fu → (j ≤ 4) → (x6 = some (.int (nI j))) → J C E S 20 [some (.ref (C.2.1 pp)), some (.int m), some (.int x), some (.int g), some (.int (nI i)), some (.int (grF S pp m g j)), x6] [] := by
          intro fu
          induction fu with
          | zero => intro j x6 hm; omega
          | succ fu ih_ =>
            intro j x6 hm hj hx6
            subst hx6
            refine j_iload6 hE dX5_groupOf_20 ?_
            refine j_iconst hE (nI 4) dX5_groupOf_22 kiconst_4 ?_
            refine j_icmpge hE 46 dX5_groupOf_23 (by decide) (fun c23 => ?_) (fun c23 => ?_)
            · skip
              have c23 := (nI_leI (by omega) (by omega)).mp c23
              have hii : j = 4 := by omega
              subst hii
              refine j_iload5 hE dX5_groupOf_46 ?_
              refine j_iload3 hE dX5_groupOf_48 ?_
              refine j_icmpne hE 55 dX5_groupOf_49 (by decide) (fun c49 => ?_) (fun c49 => ?_)
              · skip
                refine j_iload5 hE dX5_groupOf_55 ?_
                refine j_istore3 hE dX5_groupOf_57 rfl ?_
                refine j_iinc4 hE (nI (i + 1)) dX5_groupOf_58 (nI_inc _) rfl ?_
                refine j_goto hE 7 dX5_groupOf_61 (by decide) ?_
                have hg2 : gpF S pp m (25 - (i + 1)) (grF S pp m g 4) = grpF S pp m x := by
                  rw [← hg, show 25 - i = 25 - (i + 1) + 1 by omega, gpF, if_neg c49]
                exact ih (i + 1) _ _ _ (by omega) (by omega) hg2
              · skip
                refine j_goto hE 64 dX5_groupOf_52 (by decide) ?_
                refine j_iload3 hE dX5_groupOf_64 ?_
                exact j_iret hE hR dX5_groupOf_65 (by first
                    | (rw [← hg, show 25 - i = (25 - (i + 1)) + 1 by omega, gpF, if_pos c49]; done)
                    | (rw [← hg]; rfl)) (rfl)
            · skip
              have c23 : j < 4 := Nat.lt_of_not_le (fun q => c23 (nI_le q (by omega)))
              refine j_iload5 hE dX5_groupOf_26 ?_
              refine j_aload0 hE dX5_groupOf_28 ?_
              refine j_iload3 hE dX5_groupOf_29 ?_
              refine j_iload6 hE dX5_groupOf_30 ?_
              refine j_S3i hE mX5_21 (c_X5_besideSet l C hC _ pp h0 _ _) dX5_groupOf_32 (by decide) (Nat.le_of_ble_eq_true rfl) ?_
              refine j_iload1 hE dX5_groupOf_35 ?_
              refine j_iand hE dX5_groupOf_36 ?_
              refine j_ior hE dX5_groupOf_37 ?_
              refine j_istore5 hE dX5_groupOf_38 rfl ?_
              refine j_iinc6 hE (nI (j + 1)) dX5_groupOf_40 (nI_inc _) rfl ?_
              refine j_goto hE 20 dX5_groupOf_43 (by decide) ?_
              exact ih_ (j + 1) _ (by omega) (by omega) rfl
        exact L20 5 0 _ (by omega) (by omega) rfl
  exact L7 26 0 _ none none (by omega) (by omega) rfl

set_option maxHeartbeats 4000000 in
set_option maxRecDepth 100000 in
theorem c_X5_groups (l : Launch) (C : JC) (hC : JInj C) (S : Sto) (pp : Nat) (h0 : jsh pp = (0, 6)) (m : Int32) (nn : Nat) (hnn : plCells S pp = nI nn) (hle : nn ≤ 25) : Con l C yX5_groups cX5_groups 5 (some .int) 5 [.ref (C.2.1 pp), .int m] S (some (.int ((gsF S pp m nn).2))) (S) := by
  refine con_of RX5 3 [some (.ref (C.2.1 pp)), some (.int m), none, none, none] (by decide) rfl hC (Nat.le_of_ble_eq_true rfl) rfl (Nat.le_of_ble_eq_true rfl) (fun E hE hR => ?_)
  refine j_iload1 hE dX5_groups_0 ?_
  refine j_istore2 hE dX5_groups_1 rfl ?_
  refine j_iconst hE (nI 0) dX5_groups_2 kiconst_0 ?_
  refine j_istore3 hE dX5_groups_3 rfl ?_
  refine j_iconst hE (nI 0) dX5_groups_4 kiconst_0 ?_
  refine j_istore4 hE dX5_groups_5 rfl ?_
  have L7 : ∀ (fu : Nat) (i : Nat), nn - i < fu → (i ≤ nn) → J C E S 7 [some (.ref (C.2.1 pp)), some (.int m), some (.int (gsF S pp m i).1), some (.int (gsF S pp m i).2), some (.int (nI i))] [] := by
    intro fu
    induction fu with
    | zero => intro i hm; omega
    | succ fu ih =>
      intro i hm hi
      refine j_iload4 hE dX5_groups_7 ?_
      refine j_aload0 hE dX5_groups_9 ?_
      refine j_V0i hE mX5_33 (c_X7_cells l C hC _ pp h0) dX5_groups_10 (by first | assumption | rfl) (by decide) (Nat.le_of_ble_eq_true rfl) ?_
      refine j_icmpge hE 46 dX5_groups_13 (by decide) (fun c13 => ?_) (fun c13 => ?_)
      · skip
        rw [hnn] at c13
        have c13 := (nI_leI (by omega) (by omega)).mp c13
        have hii : i = nn := by omega
        subst hii
        refine j_iload3 hE dX5_groups_46 ?_
        exact j_iret hE hR dX5_groups_47 (rfl) (rfl)
      · skip
        rw [hnn] at c13
        have c13 : i < nn := Nat.lt_of_not_le (fun q => c13 (nI_le q (by omega)))
        refine j_iload2 hE dX5_groups_16 ?_
        refine j_iload4 hE dX5_groups_17 ?_
        refine j_ishr hE dX5_groups_19 ?_
        refine j_iconst hE (nI 1) dX5_groups_20 kiconst_1 ?_
        refine j_iand hE dX5_groups_21 ?_
        refine j_ifeq hE 40 dX5_groups_22 (by decide) (fun c22 => ?_) (fun c22 => ?_)
        · skip
          refine j_iinc4 hE (nI (i + 1)) dX5_groups_40 (nI_inc _) rfl ?_
          refine j_goto hE 7 dX5_groups_43 (by decide) ?_
          exact j_cast rfl (by first | (rw [gsF, if_pos c22]; done) | (rw [gsF, if_neg (fun q => q c22)]; done)) (ih (i + 1) (by omega) (by omega))
        · skip
          refine j_iload2 hE dX5_groups_25 ?_
          refine j_aload0 hE dX5_groups_26 ?_
          refine j_iload1 hE dX5_groups_27 ?_
          refine j_iload4 hE dX5_groups_28 ?_
          refine j_S3i hE mX5_37 (c_X5_groupOf l C hC _ pp h0 _ _) dX5_groups_30 (by decide) (Nat.le_of_ble_eq_true rfl) ?_
          refine j_iconst hE (-1) dX5_groups_33 kiconst_m1 ?_
          refine j_ixor hE dX5_groups_34 ?_
          refine j_iand hE dX5_groups_35 ?_
          refine j_istore2 hE dX5_groups_36 rfl ?_
          refine j_iinc3 hE _ dX5_groups_37 rfl rfl ?_
          refine j_iinc4 hE (nI (i + 1)) dX5_groups_40 (nI_inc _) rfl ?_
          refine j_goto hE 7 dX5_groups_43 (by decide) ?_
          exact j_cast rfl (by first | (rw [gsF, if_pos c22]; done) | (rw [gsF, if_neg (fun q => q c22)]; done)) (ih (i + 1) (by omega) (by omega))
  exact L7 (nn + 1) 0 (by omega) (by omega)

set_option maxHeartbeats 4000000 in
set_option maxRecDepth 100000 in
theorem c_X5_greatestGroup (l : Launch) (C : JC) (hC : JInj C) (S : Sto) (pp : Nat) (h0 : jsh pp = (0, 6)) (m : Int32) (nn : Nat) (hnn : plCells S pp = nI nn) (hle : nn ≤ 25) : Con l C yX5_greatestGroup cX5_greatestGroup 6 (some .int) 5 [.ref (C.2.1 pp), .int m] S (some (.int ((ggF S pp m nn).2))) (S) := by
  refine con_of RX5 4 [some (.ref (C.2.1 pp)), some (.int m), none, none, none, none] (by decide) rfl hC (Nat.le_of_ble_eq_true rfl) rfl (Nat.le_of_ble_eq_true rfl) (fun E hE hR => ?_)
  refine j_iload1 hE dX5_greatestGroup_0 ?_
  refine j_istore2 hE dX5_greatestGroup_1 rfl ?_
  refine j_iconst hE (nI 0) dX5_greatestGroup_2 kiconst_0 ?_
  refine j_istore3 hE dX5_greatestGroup_3 rfl ?_
  refine j_iconst hE (nI 0) dX5_greatestGroup_4 kiconst_0 ?_
  refine j_istore4 hE dX5_greatestGroup_5 rfl ?_
  have L7 : ∀ (fu : Nat) (i : Nat) (x5 : Option Value), nn - i < fu → (i ≤ nn) → J C E S 7 [some (.ref (C.2.1 pp)), some (.int m), some (.int (ggF S pp m i).1), some (.int (ggF S pp m i).2), some (.int (nI i)), x5] [] := by
    intro fu
    induction fu with
    | zero => intro i x5 hm; omega
    | succ fu ih =>
      intro i x5 hm hi
      refine j_iload4 hE dX5_greatestGroup_7 ?_
      refine j_aload0 hE dX5_greatestGroup_9 ?_
      refine j_V0i hE mX5_33 (c_X7_cells l C hC _ pp h0) dX5_greatestGroup_10 (by first | assumption | rfl) (by decide) (Nat.le_of_ble_eq_true rfl) ?_
      refine j_icmpge hE 62 dX5_greatestGroup_13 (by decide) (fun c13 => ?_) (fun c13 => ?_)
      · skip
        rw [hnn] at c13
        have c13 := (nI_leI (by omega) (by omega)).mp c13
        have hii : i = nn := by omega
        subst hii
        refine j_iload3 hE dX5_greatestGroup_62 ?_
        exact j_iret hE hR dX5_greatestGroup_63 (rfl) (rfl)
      · skip
        rw [hnn] at c13
        have c13 : i < nn := Nat.lt_of_not_le (fun q => c13 (nI_le q (by omega)))
        refine j_iload2 hE dX5_greatestGroup_16 ?_
        refine j_iload4 hE dX5_greatestGroup_17 ?_
        refine j_ishr hE dX5_greatestGroup_19 ?_
        refine j_iconst hE (nI 1) dX5_greatestGroup_20 kiconst_1 ?_
        refine j_iand hE dX5_greatestGroup_21 ?_
        refine j_ifeq hE 56 dX5_greatestGroup_22 (by decide) (fun c22 => ?_) (fun c22 => ?_)
        · skip
          refine j_iinc4 hE (nI (i + 1)) dX5_greatestGroup_56 (nI_inc _) rfl ?_
          refine j_goto hE 7 dX5_greatestGroup_59 (by decide) ?_
          exact j_cast rfl (by first | (rw [ggF, if_pos c22, if_pos c50]; done) | (rw [ggF, if_pos c22, if_neg c50]; done) | (rw [ggF, if_neg (fun q => q c22)]; done)) (ih (i + 1) _ (by omega) (by omega))
        · skip
          refine j_aload0 hE dX5_greatestGroup_25 ?_
          refine j_iload1 hE dX5_greatestGroup_26 ?_
          refine j_iload4 hE dX5_greatestGroup_27 ?_
          refine j_S3i hE mX5_37 (c_X5_groupOf l C hC _ pp h0 _ _) dX5_greatestGroup_29 (by decide) (Nat.le_of_ble_eq_true rfl) ?_
          refine j_istore5 hE dX5_greatestGroup_32 rfl ?_
          refine j_iload2 hE dX5_greatestGroup_34 ?_
          refine j_iload5 hE dX5_greatestGroup_35 ?_
          refine j_iconst hE (-1) dX5_greatestGroup_37 kiconst_m1 ?_
          refine j_ixor hE dX5_greatestGroup_38 ?_
          refine j_iand hE dX5_greatestGroup_39 ?_
          refine j_istore2 hE dX5_greatestGroup_40 rfl ?_
          refine j_iload5 hE dX5_greatestGroup_41 ?_
          refine j_S1i hE mX5_27 (c_J6_bitCount_0f7a4 l C hC _ _) dX5_greatestGroup_43 (by decide) (Nat.le_of_ble_eq_true rfl) ?_
          refine j_iload3 hE dX5_greatestGroup_46 ?_
          refine j_S1i hE mX5_27 (c_J6_bitCount_0f7a4 l C hC _ _) dX5_greatestGroup_47 (by decide) (Nat.le_of_ble_eq_true rfl) ?_
          refine j_icmple hE 56 dX5_greatestGroup_50 (by decide) (fun c50 => ?_) (fun c50 => ?_)
          · skip
            refine j_iinc4 hE (nI (i + 1)) dX5_greatestGroup_56 (nI_inc _) rfl ?_
            refine j_goto hE 7 dX5_greatestGroup_59 (by decide) ?_
            exact j_cast rfl (by first | (rw [ggF, if_pos c22, if_pos c50]; done) | (rw [ggF, if_pos c22, if_neg c50]; done) | (rw [ggF, if_neg (fun q => q c22)]; done)) (ih (i + 1) _ (by omega) (by omega))
          · skip
            refine j_iload5 hE dX5_greatestGroup_53 ?_
            refine j_istore3 hE dX5_greatestGroup_55 rfl ?_
            refine j_iinc4 hE (nI (i + 1)) dX5_greatestGroup_56 (nI_inc _) rfl ?_
            refine j_goto hE 7 dX5_greatestGroup_59 (by decide) ?_
            exact j_cast rfl (by first | (rw [ggF, if_pos c22, if_pos c50]; done) | (rw [ggF, if_pos c22, if_neg c50]; done) | (rw [ggF, if_neg (fun q => q c22)]; done)) (ih (i + 1) _ (by omega) (by omega))
  exact L7 (nn + 1) 0 none (by omega) (by omega)

set_option maxHeartbeats 4000000 in
set_option maxRecDepth 100000 in
theorem c_X5_fullest (l : Launch) (C : JC) (hC : JInj C) (S : Sto) (pp : Nat) (h0 : jsh pp = (0, 6)) (m : Int32) (nn : Nat) (hnn : S pp 4 = nI nn) (hle : nn ≤ 25) : Con l C yX5_fullest cX5_fullest 6 (some .int) 2 [.ref (C.2.1 pp), .int m] S (some (.int ((fuF S pp m nn).1))) (S) := by
  refine con_of RX5 4 [some (.ref (C.2.1 pp)), some (.int m), none, none, none, none] (by decide) rfl hC (Nat.le_of_ble_eq_true rfl) rfl (Nat.le_of_ble_eq_true rfl) (fun E hE hR => ?_)
  refine j_iconst hE (-1) dX5_fullest_0 kiconst_m1 ?_
  refine j_istore2 hE dX5_fullest_1 rfl ?_
  refine j_iconst hE (nI 0) dX5_fullest_2 kiconst_0 ?_
  refine j_istore3 hE dX5_fullest_3 rfl ?_
  refine j_iconst hE (nI 0) dX5_fullest_4 kiconst_0 ?_
  refine j_istore4 hE dX5_fullest_5 rfl ?_
  have L7 : ∀ (fu : Nat) (i : Nat) (x5 : Option Value), nn - i < fu → (i ≤ nn) → J C E S 7 [some (.ref (C.2.1 pp)), some (.int m), some (.int (fuF S pp m i).1), some (.int (fuF S pp m i).2), some (.int (nI i)), x5] [] := by
    intro fu
    induction fu with
    | zero => intro i x5 hm; omega
    | succ fu ih =>
      intro i x5 hm hi
      refine j_iload4 hE dX5_fullest_7 ?_
      refine j_aload0 hE dX5_fullest_9 ?_
      refine j_geti hE fX5_40 dX5_fullest_10 (by first | assumption | rfl) ?_
      refine j_icmpge hE 60 dX5_fullest_13 (by decide) (fun c13 => ?_) (fun c13 => ?_)
      · skip
        rw [hnn] at c13
        have c13 := (nI_leI (by omega) (by omega)).mp c13
        have hii : i = nn := by omega
        subst hii
        refine j_iload2 hE dX5_fullest_60 ?_
        exact j_iret hE hR dX5_fullest_61 (rfl) (rfl)
      · skip
        rw [hnn] at c13
        have c13 : i < nn := Nat.lt_of_not_le (fun q => c13 (nI_le q (by omega)))
        refine j_iload1 hE dX5_fullest_16 ?_
        refine j_iload4 hE dX5_fullest_17 ?_
        refine j_aload0 hE dX5_fullest_19 ?_
        refine j_geti hE fX5_9 dX5_fullest_20 (by first | assumption | rfl) ?_
        refine j_imul hE dX5_fullest_23 ?_
        refine j_ishr hE dX5_fullest_24 ?_
        refine j_iconst hE (nI 1) dX5_fullest_25 kiconst_1 ?_
        refine j_aload0 hE dX5_fullest_26 ?_
        refine j_geti hE fX5_9 dX5_fullest_27 (by first | assumption | rfl) ?_
        refine j_ishl hE dX5_fullest_30 ?_
        refine j_iconst hE (nI 1) dX5_fullest_31 kiconst_1 ?_
        refine j_isub hE dX5_fullest_32 ?_
        refine j_iand hE dX5_fullest_33 ?_
        refine j_istore5 hE dX5_fullest_34 rfl ?_
        refine j_iload5 hE dX5_fullest_36 ?_
        refine j_S1i hE mX5_27 (c_J6_bitCount_0f7a4 l C hC _ _) dX5_fullest_38 (by decide) (Nat.le_of_ble_eq_true rfl) ?_
        refine j_iload3 hE dX5_fullest_41 ?_
        refine j_icmple hE 54 dX5_fullest_42 (by decide) (fun c42 => ?_) (fun c42 => ?_)
        · skip
          have c42 : bcF (inRow S pp m i) ≤ (fuF S pp m i).2 := c42
          refine j_iinc4 hE (nI (i + 1)) dX5_fullest_54 (nI_inc _) rfl ?_
          refine j_goto hE 7 dX5_fullest_57 (by decide) ?_
          exact j_cast rfl (by first | (rw [fuF, if_pos c42]; done) | (rw [fuF, if_neg c42]; done) | (rw [fuF, if_neg c42]; rfl)) (ih (i + 1) _ (by omega) (by omega))
        · skip
          have c42 : ¬ bcF (inRow S pp m i) ≤ (fuF S pp m i).2 := c42
          refine j_iload5 hE dX5_fullest_45 ?_
          refine j_S1i hE mX5_27 (c_J6_bitCount_0f7a4 l C hC _ _) dX5_fullest_47 (by decide) (Nat.le_of_ble_eq_true rfl) ?_
          refine j_istore3 hE dX5_fullest_50 rfl ?_
          refine j_iload4 hE dX5_fullest_51 ?_
          refine j_istore2 hE dX5_fullest_53 rfl ?_
          refine j_iinc4 hE (nI (i + 1)) dX5_fullest_54 (nI_inc _) rfl ?_
          refine j_goto hE 7 dX5_fullest_57 (by decide) ?_
          exact j_cast rfl (by first | (rw [fuF, if_pos c42]; done) | (rw [fuF, if_neg c42]; done) | (rw [fuF, if_neg c42]; rfl)) (ih (i + 1) _ (by omega) (by omega))
  exact L7 (nn + 1) 0 none (by omega) (by omega)

set_option maxHeartbeats 4000000 in
set_option maxRecDepth 100000 in
theorem c_X5_like (l : Launch) (C : JC) (hC : JInj C) (S : Sto) (pp : Nat) (h0 : jsh pp = (0, 6)) (m f : Int32) : Con l C yX5_like cX5_like 3 (some .int) 2 [.ref (C.2.1 pp), .int m, .int f] S (some (.int (likF S pp m f))) (S) := by
  refine con_of RX5 0 [some (.ref (C.2.1 pp)), some (.int m), some (.int f)] (by decide) rfl hC (Nat.le_of_ble_eq_true rfl) rfl (Nat.le_of_ble_eq_true rfl) (fun E hE hR => ?_)
  refine j_aload0 hE dX5_like_0 ?_
  refine j_V0i hE mX5_33 (c_X7_cells l C hC _ pp h0) dX5_like_1 (by first | assumption | rfl) (by decide) (Nat.le_of_ble_eq_true rfl) ?_
  refine j_iload1 hE dX5_like_4 ?_
  refine j_iload2 hE dX5_like_5 ?_
  refine j_ixor hE dX5_like_6 ?_
  refine j_S1i hE mX5_27 (c_J6_bitCount_0f7a4 l C hC _ _) dX5_like_7 (by decide) (Nat.le_of_ble_eq_true rfl) ?_
  refine j_isub hE dX5_like_10 ?_
  exact j_iret hE hR dX5_like_11 (rfl) (rfl)

set_option maxHeartbeats 4000000 in
set_option maxRecDepth 100000 in
theorem c_X5_whom (l : Launch) (C : JC) (hC : JInj C) (S : Sto) (pp : Nat) (h0 : jsh pp = (0, 6)) (h1 : jsh (pp + 1) = (1, 4)) (h2 : jsh (pp + 2) = (1, 6)) (h3 : jsh (pp + 3) = (1, 6)) (h4 : jsh (pp + 4) = (1, 5)) (m : Int32) (nn : Nat) (hnn : S pp 10 = nI nn) (hle : nn ≤ 25) : Con l C yX5_whom cX5_whom 6 (some .int) 3 [.ref (C.2.1 pp), .int m] S (some (.int ((whF S pp m nn).1))) (S) := by
  refine con_of RX5 4 [some (.ref (C.2.1 pp)), some (.int m), none, none, none, none] (by decide) rfl hC (Nat.le_of_ble_eq_true rfl) rfl (Nat.le_of_ble_eq_true rfl) (fun E hE hR => ?_)
  refine j_iconst hE (-1) dX5_whom_0 kiconst_m1 ?_
  refine j_istore2 hE dX5_whom_1 rfl ?_
  refine j_iconst hE (-1) dX5_whom_2 kiconst_m1 ?_
  refine j_istore3 hE dX5_whom_3 rfl ?_
  refine j_iconst hE (nI 0) dX5_whom_4 kiconst_0 ?_
  refine j_istore4 hE dX5_whom_5 rfl ?_
  have L7 : ∀ (fu : Nat) (i : Nat) (x5 : Option Value), nn - i < fu → (i ≤ nn) → J C E S 7 [some (.ref (C.2.1 pp)), some (.int m), some (.int (whF S pp m i).1), some (.int (whF S pp m i).2), some (.int (nI i)), x5] [] := by
    intro fu
    induction fu with
    | zero => intro i x5 hm; omega
    | succ fu ih =>
      intro i x5 hm hi
      refine j_iload4 hE dX5_whom_7 ?_
      refine j_aload0 hE dX5_whom_9 ?_
      refine j_geti hE fX5_43 dX5_whom_10 (by first | assumption | rfl) ?_
      refine j_icmpge hE 50 dX5_whom_13 (by decide) (fun c13 => ?_) (fun c13 => ?_)
      · skip
        rw [hnn] at c13
        have c13 := (nI_leI (by omega) (by omega)).mp c13
        have hii : i = nn := by omega
        subst hii
        refine j_iload2 hE dX5_whom_50 ?_
        exact j_iret hE hR dX5_whom_51 (rfl) (rfl)
      · skip
        rw [hnn] at c13
        have c13 : i < nn := Nat.lt_of_not_le (fun q => c13 (nI_le q (by omega)))
        refine j_aload0 hE dX5_whom_16 ?_
        refine j_iload1 hE dX5_whom_17 ?_
        refine j_aload0 hE dX5_whom_18 ?_
        refine j_getr hE fX5_46 dX5_whom_19 (by first | assumption | rfl) (rf_o (by first | assumption | rfl) (by decide)) ?_
        refine j_iload4 hE dX5_whom_22 ?_
        refine j_SN2i hE mX5_50 (c_X10_pick l C hC _ (pp + 4) 5 h4 (by decide) _) dX5_whom_24 (by decide) (Nat.le_of_ble_eq_true rfl) ?_
        refine j_S3i hE mX5_54 (c_X5_like l C hC _ pp h0 _ _) dX5_whom_27 (by decide) (Nat.le_of_ble_eq_true rfl) ?_
        refine j_istore5 hE dX5_whom_30 rfl ?_
        refine j_iload5 hE dX5_whom_32 ?_
        refine j_iload3 hE dX5_whom_34 ?_
        refine j_icmple hE 44 dX5_whom_35 (by decide) (fun c35 => ?_) (fun c35 => ?_)
        · skip
          refine j_iinc4 hE (nI (i + 1)) dX5_whom_44 (nI_inc _) rfl ?_
          refine j_goto hE 7 dX5_whom_47 (by decide) ?_
          exact j_cast rfl (by first | (rw [whF, if_pos c35]; done) | (rw [whF, if_neg c35]; done)) (ih (i + 1) _ (by omega) (by omega))
        · skip
          refine j_iload5 hE dX5_whom_38 ?_
          refine j_istore3 hE dX5_whom_40 rfl ?_
          refine j_iload4 hE dX5_whom_41 ?_
          refine j_istore2 hE dX5_whom_43 rfl ?_
          refine j_iinc4 hE (nI (i + 1)) dX5_whom_44 (nI_inc _) rfl ?_
          refine j_goto hE 7 dX5_whom_47 (by decide) ?_
          exact j_cast rfl (by first | (rw [whF, if_pos c35]; done) | (rw [whF, if_neg c35]; done)) (ih (i + 1) _ (by omega) (by omega))
  exact L7 (nn + 1) 0 none (by omega) (by omega)

set_option maxHeartbeats 4000000 in
set_option maxRecDepth 100000 in
theorem c_X5_mayBe (l : Launch) (C : JC) (hC : JInj C) (S : Sto) (pp : Nat) (h0 : jsh pp = (0, 6)) (h1 : jsh (pp + 1) = (1, 4)) (h2 : jsh (pp + 2) = (1, 6)) (h3 : jsh (pp + 3) = (1, 6)) (h4 : jsh (pp + 4) = (1, 5)) (m : Int32) (nn : Nat) (hnn : S pp 10 = nI nn) (hle : nn ≤ 25) : Con l C yX5_mayBe cX5_mayBe 4 (some .int) 2 [.ref (C.2.1 pp), .int m] S (some (.int (mbF S pp m nn))) (S) := by
  refine con_of RX5 2 [some (.ref (C.2.1 pp)), some (.int m), none, none] (by decide) rfl hC (Nat.le_of_ble_eq_true rfl) rfl (Nat.le_of_ble_eq_true rfl) (fun E hE hR => ?_)
  refine j_iconst hE (nI 0) dX5_mayBe_0 kiconst_0 ?_
  refine j_istore2 hE dX5_mayBe_1 rfl ?_
  refine j_iconst hE (nI 0) dX5_mayBe_2 kiconst_0 ?_
  refine j_istore3 hE dX5_mayBe_3 rfl ?_
  have L4 : ∀ (fu : Nat) (i : Nat), nn - i < fu → (i ≤ nn) → J C E S 4 [some (.ref (C.2.1 pp)), some (.int m), some (.int (mbF S pp m i)), some (.int (nI i))] [] := by
    intro fu
    induction fu with
    | zero => intro i hm; omega
    | succ fu ih =>
      intro i hm hi
      refine j_iload3 hE dX5_mayBe_4 ?_
      refine j_aload0 hE dX5_mayBe_5 ?_
      refine j_geti hE fX5_43 dX5_mayBe_6 (by first | assumption | rfl) ?_
      refine j_icmpge hE 39 dX5_mayBe_9 (by decide) (fun c9 => ?_) (fun c9 => ?_)
      · skip
        rw [hnn] at c9
        have c9 := (nI_leI (by omega) (by omega)).mp c9
        have hii : i = nn := by omega
        subst hii
        refine j_iload2 hE dX5_mayBe_39 ?_
        exact j_iret hE hR dX5_mayBe_40 (rfl) (rfl)
      · skip
        rw [hnn] at c9
        have c9 : i < nn := Nat.lt_of_not_le (fun q => c9 (nI_le q (by omega)))
        refine j_iload1 hE dX5_mayBe_12 ?_
        refine j_aload0 hE dX5_mayBe_13 ?_
        refine j_getr hE fX5_46 dX5_mayBe_14 (by first | assumption | rfl) (rf_o (by first | assumption | rfl) (by decide)) ?_
        refine j_iload3 hE dX5_mayBe_17 ?_
        refine j_SN2i hE mX5_50 (c_X10_pick l C hC _ (pp + 4) 5 h4 (by decide) _) dX5_mayBe_18 (by decide) (Nat.le_of_ble_eq_true rfl) ?_
        refine j_iconst hE (-1) dX5_mayBe_21 kiconst_m1 ?_
        refine j_ixor hE dX5_mayBe_22 ?_
        refine j_iand hE dX5_mayBe_23 ?_
        refine j_ifne hE 33 dX5_mayBe_24 (by decide) (fun c24 => ?_) (fun c24 => ?_)
        · skip
          refine j_iinc3 hE (nI (i + 1)) dX5_mayBe_33 (nI_inc _) rfl ?_
          refine j_goto hE 4 dX5_mayBe_36 (by decide) ?_
          exact j_cast rfl (by first | (rw [mbF, if_pos c24]; done) | (rw [mbF, if_neg c24]; done)) (ih (i + 1) (by omega) (by omega))
        · skip
          refine j_iload2 hE dX5_mayBe_27 ?_
          refine j_iconst hE (nI 1) dX5_mayBe_28 kiconst_1 ?_
          refine j_iload3 hE dX5_mayBe_29 ?_
          refine j_ishl hE dX5_mayBe_30 ?_
          refine j_ior hE dX5_mayBe_31 ?_
          refine j_istore2 hE dX5_mayBe_32 rfl ?_
          refine j_iinc3 hE (nI (i + 1)) dX5_mayBe_33 (nI_inc _) rfl ?_
          refine j_goto hE 4 dX5_mayBe_36 (by decide) ?_
          exact j_cast rfl (by first | (rw [mbF, if_pos c24]; done) | (rw [mbF, if_neg c24]; done)) (ih (i + 1) (by omega) (by omega))
  exact L4 (nn + 1) 0 (by omega) (by omega)

set_option maxHeartbeats 4000000 in
set_option maxRecDepth 100000 in
theorem c_X1_shrink (l : Launch) (C : JC) (hC : JInj C) (S : Sto) (dd : Nat) (g0 : jsh dd = (0, 1)) (g1 : jsh (dd + 1) = (1, 25)) (g2 : jsh (dd + 2) = (1, 4)) (pp : Nat) (h0 : jsh pp = (0, 6))  : Con l C yX1_shrink cX1_shrink 4 none 5 [.ref (C.2.1 dd), .ref (C.2.1 pp)] S none (shrS S dd pp) := by
  refine con_of RX1 2 [some (.ref (C.2.1 dd)), some (.ref (C.2.1 pp)), none, none] (by decide) rfl hC (Nat.le_of_ble_eq_true rfl) rfl (Nat.le_of_ble_eq_true rfl) (fun E hE hR => ?_)
  refine j_aload1 hE dX1_shrink_0 ?_
  refine j_aload0 hE dX1_shrink_1 ?_
  refine j_V0i hE mX1_48 (c_X1_marks l C hC _ dd g0 g1 g2) dX1_shrink_2 (by first | assumption | rfl) (by decide) (Nat.le_of_ble_eq_true rfl) ?_
  refine j_S2i hE mX1_58 (c_X5_lonely l C hC _ pp h0 _) dX1_shrink_5 (by decide) (Nat.le_of_ble_eq_true rfl) ?_
  refine j_istore2 hE dX1_shrink_8 rfl ?_
  refine j_iconst hE (nI 0) dX1_shrink_9 kiconst_0 ?_
  refine j_istore3 hE dX1_shrink_10 rfl ?_
  have L11 : ∀ (fu : Nat) (i : Nat), 25 - i < fu → (i ≤ 25) → J C E (upA S (dd + 1) (shrW (lonF S pp (marksF (S (dd + 1)) 25)) (S (dd + 1)) i)) 11 [some (.ref (C.2.1 dd)), some (.ref (C.2.1 pp)), some (.int (lonF S pp (marksF (S (dd + 1)) 25))), some (.int (nI i))] [] := by
    intro fu
    induction fu with
    | zero => intro i hm; omega
    | succ fu ih =>
      intro i hm hi
      refine j_iload3 hE dX1_shrink_11 ?_
      refine j_aload0 hE dX1_shrink_12 ?_
      refine j_getr hE fX1_9 dX1_shrink_13 (by first | assumption | rfl) (rf_o (by first | assumption | rfl) (by decide)) ?_
      refine j_alen hE dX1_shrink_16 (nI 25) (by first | assumption | rfl) rfl ?_
      refine j_icmpge hE 44 dX1_shrink_17 (by decide) (fun c17 => ?_) (fun c17 => ?_)
      · skip
        have c17 := (nI_leI (by omega) (by omega)).mp c17
        have hii : i = 25 := by omega
        subst hii
        refine j_aload0 hE dX1_shrink_44 ?_
        refine j_dup hE dX1_shrink_45 rfl ?_
        refine j_geti hE fX1_36 dX1_shrink_46 (by first | assumption | rfl) ?_
        refine j_iconst hE (nI 1) dX1_shrink_49 kiconst_1 ?_
        refine j_iadd hE dX1_shrink_50 ?_
        refine j_puti hE pX1_36 dX1_shrink_51 (by first | assumption | rfl) rfl rfl ?_
        exact j_vret hE hR dX1_shrink_54 (rfl)
      · skip
        have c17 : i < 25 := Nat.lt_of_not_le (fun q => c17 (nI_le q (by omega)))
        refine j_iload2 hE dX1_shrink_20 ?_
        refine j_iload3 hE dX1_shrink_21 ?_
        refine j_ishr hE dX1_shrink_22 ?_
        refine j_iconst hE (nI 1) dX1_shrink_23 kiconst_1 ?_
        refine j_iand hE dX1_shrink_24 ?_
        refine j_ifeq hE 38 dX1_shrink_25 (by decide) (fun c25 => ?_) (fun c25 => ?_)
        · skip
          refine j_iinc3 hE (nI (i + 1)) dX1_shrink_38 (nI_inc _) rfl ?_
          refine j_goto hE 11 dX1_shrink_41 (by decide) ?_
          exact j_cast (by first | (rw [up2_upA, upA_same, shrW_t c25]; done) | (rw [shrW_f (fun q => q c25)]; done)) rfl (ih (i + 1) (by omega) (by omega))
        · skip
          refine j_aload0 hE dX1_shrink_28 ?_
          refine j_getr hE fX1_9 dX1_shrink_29 (by first | assumption | rfl) (rf_o (by first | assumption | rfl) (by decide)) ?_
          refine j_iload3 hE dX1_shrink_32 ?_
          refine j_dup2 hE dX1_shrink_33 rfl rfl ?_
          refine j_ialdN hE dX1_shrink_34 (by first | assumption | rfl) (by omega) (by decide) ?_
          refine j_iconst hE (nI 2) dX1_shrink_35 kiconst_2 ?_
          refine j_isub hE dX1_shrink_36 ?_
          refine j_iastN hE dX1_shrink_37 (by first | assumption | rfl) (by omega) (by decide) ?_
          refine j_iinc3 hE (nI (i + 1)) dX1_shrink_38 (nI_inc _) rfl ?_
          refine j_goto hE 11 dX1_shrink_41 (by decide) ?_
          exact j_cast (by first | (rw [up2_upA, upA_same, shrW_t c25]; done) | (rw [shrW_f (fun q => q c25)]; done)) rfl (ih (i + 1) (by omega) (by omega))
  exact j_cast (by rw [shrW_0, upA_self]) rfl (L11 26 0 (by omega) (by omega))

