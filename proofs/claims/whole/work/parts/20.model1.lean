abbrev inP (x a b : Int64) : Prop := a ≤ x ∧ x ≤ b
theorem lg_lt0 {x y : Int64} : lg_cmp x y < 0 ↔ ¬ y ≤ x := by
  rw [lg_cmp_lt, Int64.lt_iff_toInt_lt, Int64.le_iff_toInt_le]; omega
theorem lg_gt0 {x y : Int64} : 0 < lg_cmp x y ↔ ¬ x ≤ y := by
  rw [lg_cmp_gt, Int64.lt_iff_toInt_lt, Int64.le_iff_toInt_le]; omega
abbrev hasM (set k : Int32) : Prop := (set >>> (k &&& 31)) &&& nI 1 = nI 1
def bitsF (x : Int32) : Nat → Int32
  | 0 => nI 0
  | n + 1 => bitsF x n + ((x >>> (nI n &&& 31)) &&& nI 1)
def boundF (v : Int32) : Int32 := if v ≤ nI 9 then (if 0 ≤ v then v else nI 0) else nI 9
def mcl (S : Sto) : Int32 := S 114 0 * S 114 1
abbrev isM (n x : Int32) : Prop := inP x.toInt64 (lN 0) (n - nI 1).toInt64
abbrev nxP (x y w : Int32) : Prop := ((x - x / w * w) - (y - y / w * w)) * ((x - x / w * w) - (y - y / w * w)) + (x / w - y / w) * (x / w - y / w) = nI 1
def mshF (f : Nat → Int32) : Nat → Int32
  | 0 => nI 0
  | n + 1 => mshF f n ||| (if f n < nI 3 then nI 0 else nI 1 <<< (nI n &&& 31))
def arF (w x : Int32) : Nat → Int32
  | 0 => nI 0
  | n + 1 => arF w x n ||| (if nxP x (nI n) w then nI 1 <<< (nI n &&& 31) else nI 0)
def mlkF (S : Sto) (nn k : Nat) : Int32 := mcl S - bitsF (mshF (S 119) nn ^^^ S 118 k) 25
def mwhF (S : Sto) (nn : Nat) : Nat → Int32 × Int32
  | 0 => (-1, -1)
  | n + 1 => (if mlkF S nn n ≤ (mwhF S nn n).2 then (mwhF S nn n).1 else nI n, if mlkF S nn n ≤ (mwhF S nn n).2 then (mwhF S nn n).2 else mlkF S nn n)
def mmbF (S : Sto) (nn : Nat) : Nat → Int32
  | 0 => nI 0
  | n + 1 => mmbF S nn n ||| (if mshF (S 119) nn &&& (S 118 n ^^^ (-1)) = 0 then nI 1 <<< (nI n &&& 31) else nI 0)
def mgrF (S : Sto) (nn : Nat) (g : Int32) : Nat → Int32
  | 0 => g
  | n + 1 => mgrF S nn g n ||| (if hasM g (nI n) then arF (S 114 1) (nI n) nn &&& mshF (S 119) nn else nI 0)
def mgpF (S : Sto) (nn : Nat) (x : Int32) : Nat → Int32
  | 0 => nI 1 <<< (x &&& 31)
  | k + 1 => mgrF S nn (mgpF S nn x k) nn
def mgsF (S : Sto) (nn : Nat) : Nat → Int32 × Int32 × Int32
  | 0 => (mshF (S 119) nn, nI 0, nI 0)
  | n + 1 => if hasM (mgsF S nn n).1 (nI n) then ((mgsF S nn n).1 &&& (mgpF S nn (nI n) 25 ^^^ (-1)), (mgsF S nn n).2.1 + Int32.ofInt 1, if bitsF (mgpF S nn (nI n) 25) 25 ≤ bitsF (mgsF S nn n).2.2 25 then (mgsF S nn n).2.2 else mgpF S nn (nI n) 25) else mgsF S nn n
def mbdF (S : Sto) (nn : Nat) : Nat → Int32
  | 0 => nI 0
  | n + 1 => mbdF S nn n + (if hasM (mshF (S 119) nn) (nI n) then nI 4 - bitsF (arF (S 114 1) (nI n) nn &&& mshF (S 119) nn) 25 else nI 0)
def minR (S : Sto) (nn n : Nat) : Int32 := bitsF ((mshF (S 119) nn >>> ((S 114 1 * nI n) &&& 31)) &&& ((nI 1 <<< (S 114 1 &&& 31)) - nI 1)) 25
def mfuF (S : Sto) (nn : Nat) : Nat → Int32 × Int32
  | 0 => (-1, nI 0)
  | n + 1 => (if minR S nn n ≤ (mfuF S nn n).2 then (mfuF S nn n).1 else nI n, if minR S nn n ≤ (mfuF S nn n).2 then (mfuF S nn n).2 else minR S nn n)
theorem isM_n {k : Nat} {x : Int32} (hk : k ≤ 1000) (h : isM (nI k) x) : ∃ j, j < k ∧ x = nI j := by
  obtain ⟨h1, h2⟩ := h
  rw [Int64.le_iff_toInt_le] at h1 h2
  rw [Int32.toInt_toInt64] at h1 h2
  rw [Int32.toInt_toInt64] at h2
  have e0 : (lN 0).toInt = 0 := rfl
  rw [e0] at h1
  obtain ⟨j, hj⟩ := Int.eq_ofNat_of_zero_le h1
  have hx : x = nI j := i32_of hj
  subst hx
  rcases Nat.eq_zero_or_pos k with q | q
  · subst q
    have : (nI 0 - nI 1).toInt = -1 := rfl
    omega
  · have e1 : (nI k - nI 1).toInt = ((k - 1 : Nat) : Int) := by rw [nI_dec (by omega), nI_toInt (by omega)]
    rw [e1, hj] at h2
    exact ⟨j, by omega, rfl⟩
set_option maxHeartbeats 4000000 in
set_option maxRecDepth 100000 in
theorem c_X11_in (l : Launch) (C : JC) (hC : JInj C) (S : Sto) (x a b : Int64) : Con l C yX11_in cX11_in 6 (some .boolean) 1 [.long x, .long a, .long b] S (some (.int (if inP x a b then nI 1 else nI 0))) (S) := by
  refine con_of RX11 0 [some (.long x), none, some (.long a), none, some (.long b), none] (by decide) rfl hC (Nat.le_of_ble_eq_true rfl) rfl (Nat.le_of_ble_eq_true rfl) (fun E hE hR => ?_)
  refine j_lload0 hE dX11_in_0 ?_
  refine j_lload2 hE dX11_in_1 ?_
  refine j_lcmp hE dX11_in_2 ?_
  refine j_iflt hE 17 dX11_in_3 (by decide) (fun c3 => ?_) (fun c3 => ?_)
  · skip
    rw [lg_lt0] at c3
    refine j_iconst hE (nI 0) dX11_in_17 kiconst_0 ?_
    exact j_zret hE hR dX11_in_18 (by first
        | (rw [if_neg (fun z => c3 z.1)]; first | done | rfl)
        | (rw [if_neg (fun z => c10 z.2)]; first | done | rfl)
        | (rw [if_pos ⟨c3, c10⟩]; first | done | rfl)) (rfl) nar_c
  · skip
    rw [lg_lt0, Classical.not_not] at c3
    refine j_lload0 hE dX11_in_6 ?_
    refine j_lload4 hE dX11_in_7 ?_
    refine j_lcmp hE dX11_in_9 ?_
    refine j_ifgt hE 17 dX11_in_10 (by decide) (fun c10 => ?_) (fun c10 => ?_)
    · skip
      rw [lg_gt0] at c10
      refine j_iconst hE (nI 0) dX11_in_17 kiconst_0 ?_
      exact j_zret hE hR dX11_in_18 (by first
          | (rw [if_neg (fun z => c3 z.1)]; first | done | rfl)
          | (rw [if_neg (fun z => c10 z.2)]; first | done | rfl)
          | (rw [if_pos ⟨c3, c10⟩]; first | done | rfl)) (rfl) nar_c
    · skip
      rw [lg_gt0, Classical.not_not] at c10
      refine j_iconst hE (nI 1) dX11_in_13 kiconst_1 ?_
      refine j_goto hE 18 dX11_in_14 (by decide) ?_
      exact j_zret hE hR dX11_in_18 (by first
          | (rw [if_neg (fun z => c3 z.1)]; first | done | rfl)
          | (rw [if_neg (fun z => c10 z.2)]; first | done | rfl)
          | (rw [if_pos ⟨c3, c10⟩]; first | done | rfl)) (rfl) nar_c

set_option maxHeartbeats 4000000 in
set_option maxRecDepth 100000 in
theorem c_X11_has (l : Launch) (C : JC) (hC : JInj C) (S : Sto) (x k : Int32) : Con l C yX11_has cX11_has 2 (some .boolean) 1 [.int x, .int k] S (some (.int (if hasM x k then nI 1 else nI 0))) (S) := by
  refine con_of RX11 0 [some (.int x), some (.int k)] (by decide) rfl hC (Nat.le_of_ble_eq_true rfl) rfl (Nat.le_of_ble_eq_true rfl) (fun E hE hR => ?_)
  refine j_iload0 hE dX11_has_0 ?_
  refine j_iload1 hE dX11_has_1 ?_
  refine j_ishr hE dX11_has_2 ?_
  refine j_iconst hE (nI 1) dX11_has_3 kiconst_1 ?_
  refine j_iand hE dX11_has_4 ?_
  refine j_iconst hE (nI 1) dX11_has_5 kiconst_1 ?_
  refine j_icmpne hE 13 dX11_has_6 (by decide) (fun c6 => ?_) (fun c6 => ?_)
  · skip
    refine j_iconst hE (nI 0) dX11_has_13 kiconst_0 ?_
    exact j_zret hE hR dX11_has_14 (by first
        | (rw [if_neg c6]; first | done | rfl)
        | (rw [if_pos c6]; first | done | rfl)) (rfl) nar_c
  · skip
    refine j_iconst hE (nI 1) dX11_has_9 kiconst_1 ?_
    refine j_goto hE 14 dX11_has_10 (by decide) ?_
    exact j_zret hE hR dX11_has_14 (by first
        | (rw [if_neg c6]; first | done | rfl)
        | (rw [if_pos c6]; first | done | rfl)) (rfl) nar_c

set_option maxHeartbeats 4000000 in
set_option maxRecDepth 100000 in
theorem c_X11_bits (l : Launch) (C : JC) (hC : JInj C) (S : Sto) (x : Int32) : Con l C yX11_bits cX11_bits 3 (some .int) 1 [.int x] S (some (.int (bitsF x 25))) (S) := by
  refine con_of RX11 2 [some (.int x), none, none] (by decide) rfl hC (Nat.le_of_ble_eq_true rfl) rfl (Nat.le_of_ble_eq_true rfl) (fun E hE hR => ?_)
  refine j_iconst hE (nI 0) dX11_bits_0 kiconst_0 ?_
  refine j_istore1 hE dX11_bits_1 rfl ?_
  refine j_iconst hE (nI 0) dX11_bits_2 kiconst_0 ?_
  refine j_istore2 hE dX11_bits_3 rfl ?_
  have L4 : ∀ (fu : Nat) (i : Nat), 25 - i < fu → (i ≤ 25) → J C E S 4 [some (.int x), some (.int (bitsF x i)), some (.int (nI i))] [] := by
    intro fu
    induction fu with
    | zero => intro i hm; omega
    | succ fu ih =>
      intro i hm hi
      refine j_iload2 hE dX11_bits_4 ?_
      refine j_bipush hE (nI 25) dX11_bits_5 kbipush_25 ?_
      refine j_icmpge hE 24 dX11_bits_7 (by decide) (fun c7 => ?_) (fun c7 => ?_)
      · skip
        have c7 := (nI_leI (by omega) (by omega)).mp c7
        have hii : i = 25 := by omega
        subst hii
        refine j_iload1 hE dX11_bits_24 ?_
        exact j_iret hE hR dX11_bits_25 (rfl) (rfl)
      · skip
        have c7 : i < 25 := Nat.lt_of_not_le (fun q => c7 (nI_le q (by omega)))
        refine j_iload1 hE dX11_bits_10 ?_
        refine j_iload0 hE dX11_bits_11 ?_
        refine j_iload2 hE dX11_bits_12 ?_
        refine j_ishr hE dX11_bits_13 ?_
        refine j_iconst hE (nI 1) dX11_bits_14 kiconst_1 ?_
        refine j_iand hE dX11_bits_15 ?_
        refine j_iadd hE dX11_bits_16 ?_
        refine j_istore1 hE dX11_bits_17 rfl ?_
        refine j_iinc2 hE (nI (i + 1)) dX11_bits_18 (nI_inc _) rfl ?_
        refine j_goto hE 4 dX11_bits_21 (by decide) ?_
        exact ih (i + 1) (by omega) (by omega)
  exact L4 26 0 (by omega) (by omega)

set_option maxHeartbeats 4000000 in
set_option maxRecDepth 100000 in
theorem c_X11_bound (l : Launch) (C : JC) (hC : JInj C) (S : Sto) (v : Int32) : Con l C yX11_bound cX11_bound 1 (some .int) 1 [.int v] S (some (.int (boundF v))) (S) := by
  refine con_of RX11 0 [some (.int v)] (by decide) rfl hC (Nat.le_of_ble_eq_true rfl) rfl (Nat.le_of_ble_eq_true rfl) (fun E hE hR => ?_)
  refine j_iload0 hE dX11_bound_0 ?_
  refine j_bipush hE (nI 9) dX11_bound_1 kbipush_9 ?_
  refine j_icmple hE 11 dX11_bound_3 (by decide) (fun c3 => ?_) (fun c3 => ?_)
  · skip
    refine j_iload0 hE dX11_bound_11 ?_
    refine j_ifge hE 19 dX11_bound_12 (by decide) (fun c12 => ?_) (fun c12 => ?_)
    · skip
      refine j_iload0 hE dX11_bound_19 ?_
      exact j_iret hE hR dX11_bound_20 (by first
          | (rw [boundF, if_neg c3]; first | done | rfl)
          | (rw [boundF, if_pos c3, if_pos c12]; first | done | rfl)
          | (rw [boundF, if_pos c3, if_neg c12]; first | done | rfl)) (rfl)
    · skip
      refine j_iconst hE (nI 0) dX11_bound_15 kiconst_0 ?_
      refine j_goto hE 20 dX11_bound_16 (by decide) ?_
      exact j_iret hE hR dX11_bound_20 (by first
          | (rw [boundF, if_neg c3]; first | done | rfl)
          | (rw [boundF, if_pos c3, if_pos c12]; first | done | rfl)
          | (rw [boundF, if_pos c3, if_neg c12]; first | done | rfl)) (rfl)
  · skip
    refine j_bipush hE (nI 9) dX11_bound_6 kbipush_9 ?_
    refine j_goto hE 20 dX11_bound_8 (by decide) ?_
    exact j_iret hE hR dX11_bound_20 (by first
        | (rw [boundF, if_neg c3]; first | done | rfl)
        | (rw [boundF, if_pos c3, if_pos c12]; first | done | rfl)
        | (rw [boundF, if_pos c3, if_neg c12]; first | done | rfl)) (rfl)

set_option maxHeartbeats 4000000 in
set_option maxRecDepth 100000 in
theorem c_X11_cells (l : Launch) (C : JC) (hC : JInj C) (S : Sto)  : Con l C yX11_cells cX11_cells 1 (some .int) 1 [.ref (C.2.1 114)] S (some (.int (mcl S))) (S) := by
  refine con_of RX11 0 [some (.ref (C.2.1 114))] (by decide) rfl hC (Nat.le_of_ble_eq_true rfl) rfl (Nat.le_of_ble_eq_true rfl) (fun E hE hR => ?_)
  refine j_aload0 hE dX11_cells_0 ?_
  refine j_geti hE fX11_72 dX11_cells_1 (by first | assumption | rfl) ?_
  refine j_aload0 hE dX11_cells_4 ?_
  refine j_geti hE fX11_75 dX11_cells_5 (by first | assumption | rfl) ?_
  refine j_imul hE dX11_cells_8 ?_
  exact j_iret hE hR dX11_cells_9 (rfl) (rfl)

set_option maxHeartbeats 4000000 in
set_option maxRecDepth 100000 in
theorem c_X11_isCell (l : Launch) (C : JC) (hC : JInj C) (S : Sto) (x : Int32) : Con l C yX11_isCell cX11_isCell 2 (some .boolean) 2 [.ref (C.2.1 114), .int x] S (some (.int (if isM (mcl S) x then nI 1 else nI 0))) (S) := by
  refine con_of RX11 0 [some (.ref (C.2.1 114)), some (.int x)] (by decide) rfl hC (Nat.le_of_ble_eq_true rfl) rfl (Nat.le_of_ble_eq_true rfl) (fun E hE hR => ?_)
  refine j_iload1 hE dX11_isCell_0 ?_
  refine j_i2l hE dX11_isCell_1 ?_
  refine j_lconst hE (lN 0) dX11_isCell_2 rfl ?_
  refine j_aload0 hE dX11_isCell_3 ?_
  refine j_V0i hE mX11_78 (c_X11_cells l C hC _) dX11_isCell_4 (by first | assumption | rfl) (by decide) (Nat.le_of_ble_eq_true rfl) ?_
  refine j_iconst hE (nI 1) dX11_isCell_7 kiconst_1 ?_
  refine j_isub hE dX11_isCell_8 ?_
  refine j_i2l hE dX11_isCell_9 ?_
  refine j_S3i hE mX11_82 (c_X11_in l C hC _ _ _ _) dX11_isCell_10 (by decide) (Nat.le_of_ble_eq_true rfl) ?_
  exact j_zret hE hR dX11_isCell_13 (rfl) (rfl) nar_c

set_option maxHeartbeats 4000000 in
set_option maxRecDepth 100000 in
theorem c_X11_isLeak (l : Launch) (C : JC) (hC : JInj C) (S : Sto) (x : Int32) : Con l C yX11_isLeak cX11_isLeak 2 (some .boolean) 2 [.ref (C.2.1 114), .int x] S (some (.int (if isM (S 114 2) x then nI 1 else nI 0))) (S) := by
  refine con_of RX11 0 [some (.ref (C.2.1 114)), some (.int x)] (by decide) rfl hC (Nat.le_of_ble_eq_true rfl) rfl (Nat.le_of_ble_eq_true rfl) (fun E hE hR => ?_)
  refine j_iload1 hE dX11_isLeak_0 ?_
  refine j_i2l hE dX11_isLeak_1 ?_
  refine j_lconst hE (lN 0) dX11_isLeak_2 rfl ?_
  refine j_aload0 hE dX11_isLeak_3 ?_
  refine j_geti hE fX11_86 dX11_isLeak_4 (by first | assumption | rfl) ?_
  refine j_iconst hE (nI 1) dX11_isLeak_7 kiconst_1 ?_
  refine j_isub hE dX11_isLeak_8 ?_
  refine j_i2l hE dX11_isLeak_9 ?_
  refine j_S3i hE mX11_82 (c_X11_in l C hC _ _ _ _) dX11_isLeak_10 (by decide) (Nat.le_of_ble_eq_true rfl) ?_
  exact j_zret hE hR dX11_isLeak_13 (rfl) (rfl) nar_c

set_option maxHeartbeats 4000000 in
set_option maxRecDepth 100000 in
theorem c_X11_isCrack (l : Launch) (C : JC) (hC : JInj C) (S : Sto) (x : Int32) : Con l C yX11_isCrack cX11_isCrack 2 (some .boolean) 2 [.ref (C.2.1 114), .int x] S (some (.int (if isM (S 114 4) x then nI 1 else nI 0))) (S) := by
  refine con_of RX11 0 [some (.ref (C.2.1 114)), some (.int x)] (by decide) rfl hC (Nat.le_of_ble_eq_true rfl) rfl (Nat.le_of_ble_eq_true rfl) (fun E hE hR => ?_)
  refine j_iload1 hE dX11_isCrack_0 ?_
  refine j_i2l hE dX11_isCrack_1 ?_
  refine j_lconst hE (lN 0) dX11_isCrack_2 rfl ?_
  refine j_aload0 hE dX11_isCrack_3 ?_
  refine j_geti hE fX11_89 dX11_isCrack_4 (by first | assumption | rfl) ?_
  refine j_iconst hE (nI 1) dX11_isCrack_7 kiconst_1 ?_
  refine j_isub hE dX11_isCrack_8 ?_
  refine j_i2l hE dX11_isCrack_9 ?_
  refine j_S3i hE mX11_82 (c_X11_in l C hC _ _ _ _) dX11_isCrack_10 (by decide) (Nat.le_of_ble_eq_true rfl) ?_
  exact j_zret hE hR dX11_isCrack_13 (rfl) (rfl) nar_c

set_option maxHeartbeats 4000000 in
set_option maxRecDepth 100000 in
theorem c_X11_isLike (l : Launch) (C : JC) (hC : JInj C) (S : Sto) (x : Int32) : Con l C yX11_isLike cX11_isLike 2 (some .boolean) 2 [.ref (C.2.1 114), .int x] S (some (.int (if isM (S 114 7) x then nI 1 else nI 0))) (S) := by
  refine con_of RX11 0 [some (.ref (C.2.1 114)), some (.int x)] (by decide) rfl hC (Nat.le_of_ble_eq_true rfl) rfl (Nat.le_of_ble_eq_true rfl) (fun E hE hR => ?_)
  refine j_iload1 hE dX11_isLike_0 ?_
  refine j_i2l hE dX11_isLike_1 ?_
  refine j_lconst hE (lN 0) dX11_isLike_2 rfl ?_
  refine j_aload0 hE dX11_isLike_3 ?_
  refine j_geti hE fX11_92 dX11_isLike_4 (by first | assumption | rfl) ?_
  refine j_iconst hE (nI 1) dX11_isLike_7 kiconst_1 ?_
  refine j_isub hE dX11_isLike_8 ?_
  refine j_i2l hE dX11_isLike_9 ?_
  refine j_S3i hE mX11_82 (c_X11_in l C hC _ _ _ _) dX11_isLike_10 (by decide) (Nat.le_of_ble_eq_true rfl) ?_
  exact j_zret hE hR dX11_isLike_13 (rfl) (rfl) nar_c

set_option maxHeartbeats 4000000 in
set_option maxRecDepth 100000 in
theorem c_X11_areNext (l : Launch) (C : JC) (hC : JInj C) (S : Sto) (x y w : Int32) (hw : ¬ w = 0) : Con l C yX11_areNext cX11_areNext 5 (some .boolean) 1 [.int x, .int y, .int w] S (some (.int (if nxP x y w then nI 1 else nI 0))) (S) := by
  refine con_of RX11 2 [some (.int x), some (.int y), some (.int w), none, none] (by decide) rfl hC (Nat.le_of_ble_eq_true rfl) rfl (Nat.le_of_ble_eq_true rfl) (fun E hE hR => ?_)
  refine j_iload0 hE dX11_areNext_0 ?_
  refine j_iload2 hE dX11_areNext_1 ?_
  refine j_irem hE dX11_areNext_2 (hw) ?_
  refine j_iload1 hE dX11_areNext_3 ?_
  refine j_iload2 hE dX11_areNext_4 ?_
  refine j_irem hE dX11_areNext_5 (hw) ?_
  refine j_isub hE dX11_areNext_6 ?_
  refine j_istore3 hE dX11_areNext_7 rfl ?_
  refine j_iload0 hE dX11_areNext_8 ?_
  refine j_iload2 hE dX11_areNext_9 ?_
  refine j_idiv hE dX11_areNext_10 (hw) ?_
  refine j_iload1 hE dX11_areNext_11 ?_
  refine j_iload2 hE dX11_areNext_12 ?_
  refine j_idiv hE dX11_areNext_13 (hw) ?_
  refine j_isub hE dX11_areNext_14 ?_
  refine j_istore4 hE dX11_areNext_15 rfl ?_
  refine j_iload3 hE dX11_areNext_17 ?_
  refine j_iload3 hE dX11_areNext_18 ?_
  refine j_imul hE dX11_areNext_19 ?_
  refine j_iload4 hE dX11_areNext_20 ?_
  refine j_iload4 hE dX11_areNext_22 ?_
  refine j_imul hE dX11_areNext_24 ?_
  refine j_iadd hE dX11_areNext_25 ?_
  refine j_iconst hE (nI 1) dX11_areNext_26 kiconst_1 ?_
  refine j_icmpne hE 34 dX11_areNext_27 (by decide) (fun c27 => ?_) (fun c27 => ?_)
  · skip
    refine j_iconst hE (nI 0) dX11_areNext_34 kiconst_0 ?_
    exact j_zret hE hR dX11_areNext_35 (by first
        | (rw [if_neg c27]; first | done | rfl)
        | (rw [if_pos c27]; first | done | rfl)) (rfl) nar_c
  · skip
    refine j_iconst hE (nI 1) dX11_areNext_30 kiconst_1 ?_
    refine j_goto hE 35 dX11_areNext_31 (by decide) ?_
    exact j_zret hE hR dX11_areNext_35 (by first
        | (rw [if_neg c27]; first | done | rfl)
        | (rw [if_pos c27]; first | done | rfl)) (rfl) nar_c

set_option maxHeartbeats 4000000 in
set_option maxRecDepth 100000 in
theorem c_X11_shows (l : Launch) (C : JC) (hC : JInj C) (S : Sto) (nn : Nat) (hnn : mcl S = nI nn) (hle : nn ≤ 25)  : Con l C yX11_shows cX11_shows 3 (some .int) 2 [.ref (C.2.1 114)] S (some (.int (mshF (S 119) nn))) (S) := by
  refine con_of RX11 2 [some (.ref (C.2.1 114)), none, none] (by decide) rfl hC (Nat.le_of_ble_eq_true rfl) rfl (Nat.le_of_ble_eq_true rfl) (fun E hE hR => ?_)
  refine j_iconst hE (nI 0) dX11_shows_0 kiconst_0 ?_
  refine j_istore1 hE dX11_shows_1 rfl ?_
  refine j_iconst hE (nI 0) dX11_shows_2 kiconst_0 ?_
  refine j_istore2 hE dX11_shows_3 rfl ?_
  have L4 : ∀ (fu : Nat) (i : Nat), nn - i < fu → (i ≤ nn) → J C E S 4 [some (.ref (C.2.1 114)), some (.int (mshF (S 119) i)), some (.int (nI i))] [] := by
    intro fu
    induction fu with
    | zero => intro i hm; omega
    | succ fu ih =>
      intro i hm hi
      refine j_iload2 hE dX11_shows_4 ?_
      refine j_aload0 hE dX11_shows_5 ?_
      refine j_V0i hE mX11_78 (c_X11_cells l C hC _) dX11_shows_6 (by first | assumption | rfl) (by decide) (Nat.le_of_ble_eq_true rfl) ?_
      refine j_icmpge hE 38 dX11_shows_9 (by decide) (fun c9 => ?_) (fun c9 => ?_)
      · skip
        rw [hnn] at c9
        have c9 := (nI_leI (by omega) (by omega)).mp c9
        have hii : i = nn := by omega
        subst hii
        refine j_iload1 hE dX11_shows_38 ?_
        exact j_iret hE hR dX11_shows_39 (rfl) (rfl)
      · skip
        rw [hnn] at c9
        have c9 : i < nn := Nat.lt_of_not_le (fun q => c9 (nI_le q (by omega)))
        refine j_iload1 hE dX11_shows_12 ?_
        refine j_aload0 hE dX11_shows_13 ?_
        refine j_getr hE fX11_22 dX11_shows_14 (j := 119) (by first | assumption | rfl) (rfl) ?_
        refine j_iload2 hE dX11_shows_17 ?_
        refine j_ialdN hE dX11_shows_18 (by first | assumption | rfl) (by omega) (by decide) ?_
        refine j_iconst hE (nI 3) dX11_shows_19 kiconst_3 ?_
        refine j_icmplt hE 29 dX11_shows_20 (by decide) (fun c20 => ?_) (fun c20 => ?_)
        · skip
          refine j_iconst hE (nI 0) dX11_shows_29 kiconst_0 ?_
          refine j_ior hE dX11_shows_30 ?_
          refine j_istore1 hE dX11_shows_31 rfl ?_
          refine j_iinc2 hE (nI (i + 1)) dX11_shows_32 (nI_inc _) rfl ?_
          refine j_goto hE 4 dX11_shows_35 (by decide) ?_
          exact j_cast rfl (by first | (rw [mshF, if_pos c20]; done) | (rw [mshF, if_neg c20]; done)) (ih (i + 1) (by omega) (by omega))
        · skip
          refine j_iconst hE (nI 1) dX11_shows_23 kiconst_1 ?_
          refine j_iload2 hE dX11_shows_24 ?_
          refine j_ishl hE dX11_shows_25 ?_
          refine j_goto hE 30 dX11_shows_26 (by decide) ?_
          refine j_ior hE dX11_shows_30 ?_
          refine j_istore1 hE dX11_shows_31 rfl ?_
          refine j_iinc2 hE (nI (i + 1)) dX11_shows_32 (nI_inc _) rfl ?_
          refine j_goto hE 4 dX11_shows_35 (by decide) ?_
          exact j_cast rfl (by first | (rw [mshF, if_pos c20]; done) | (rw [mshF, if_neg c20]; done)) (ih (i + 1) (by omega) (by omega))
  exact L4 (nn + 1) 0 (by omega) (by omega)

set_option maxHeartbeats 4000000 in
set_option maxRecDepth 100000 in
theorem c_X11_around (l : Launch) (C : JC) (hC : JInj C) (S : Sto) (nn : Nat) (hnn : mcl S = nI nn) (hle : nn ≤ 25) (hw : nn ≠ 0 → ¬ S 114 1 = 0) (x : Int32) : Con l C yX11_around cX11_around 4 (some .int) 2 [.ref (C.2.1 114), .int x] S (some (.int (arF (S 114 1) x nn))) (S) := by
  refine con_of RX11 2 [some (.ref (C.2.1 114)), some (.int x), none, none] (by decide) rfl hC (Nat.le_of_ble_eq_true rfl) rfl (Nat.le_of_ble_eq_true rfl) (fun E hE hR => ?_)
  refine j_iconst hE (nI 0) dX11_around_0 kiconst_0 ?_
  refine j_istore2 hE dX11_around_1 rfl ?_
  refine j_iconst hE (nI 0) dX11_around_2 kiconst_0 ?_
  refine j_istore3 hE dX11_around_3 rfl ?_
  have L4 : ∀ (fu : Nat) (i : Nat), nn - i < fu → (i ≤ nn) → J C E S 4 [some (.ref (C.2.1 114)), some (.int x), some (.int (arF (S 114 1) x i)), some (.int (nI i))] [] := by
    intro fu
    induction fu with
    | zero => intro i hm; omega
    | succ fu ih =>
      intro i hm hi
      refine j_iload3 hE dX11_around_4 ?_
      refine j_aload0 hE dX11_around_5 ?_
      refine j_V0i hE mX11_78 (c_X11_cells l C hC _) dX11_around_6 (by first | assumption | rfl) (by decide) (Nat.le_of_ble_eq_true rfl) ?_
      refine j_icmpge hE 40 dX11_around_9 (by decide) (fun c9 => ?_) (fun c9 => ?_)
      · skip
        rw [hnn] at c9
        have c9 := (nI_leI (by omega) (by omega)).mp c9
        have hii : i = nn := by omega
        subst hii
        refine j_iload2 hE dX11_around_40 ?_
        exact j_iret hE hR dX11_around_41 (rfl) (rfl)
      · skip
        rw [hnn] at c9
        have c9 : i < nn := Nat.lt_of_not_le (fun q => c9 (nI_le q (by omega)))
        refine j_iload2 hE dX11_around_12 ?_
        refine j_iload1 hE dX11_around_13 ?_
        refine j_iload3 hE dX11_around_14 ?_
        refine j_aload0 hE dX11_around_15 ?_
        refine j_geti hE fX11_75 dX11_around_16 (by first | assumption | rfl) ?_
        refine j_S3i hE mX11_144 (c_X11_areNext l C hC _ _ _ _ (hw (by omega))) dX11_around_19 (by decide) (Nat.le_of_ble_eq_true rfl) ?_
        first | refine j_ifeqP hE 31 dX11_around_22 (by decide) (fun c22 => ?_) (fun c22 => ?_) | refine j_ifeq hE 31 dX11_around_22 (by decide) (fun c22 => ?_) (fun c22 => ?_)
        · skip
          refine j_iconst hE (nI 0) dX11_around_31 kiconst_0 ?_
          refine j_ior hE dX11_around_32 ?_
          refine j_istore2 hE dX11_around_33 rfl ?_
          refine j_iinc3 hE (nI (i + 1)) dX11_around_34 (nI_inc _) rfl ?_
          refine j_goto hE 4 dX11_around_37 (by decide) ?_
          exact j_cast rfl (by first | (rw [arF, if_pos c22]; done) | (rw [arF, if_neg c22]; done)) (ih (i + 1) (by omega) (by omega))
        · skip
          refine j_iconst hE (nI 1) dX11_around_25 kiconst_1 ?_
          refine j_iload3 hE dX11_around_26 ?_
          refine j_ishl hE dX11_around_27 ?_
          refine j_goto hE 32 dX11_around_28 (by decide) ?_
          refine j_ior hE dX11_around_32 ?_
          refine j_istore2 hE dX11_around_33 rfl ?_
          refine j_iinc3 hE (nI (i + 1)) dX11_around_34 (nI_inc _) rfl ?_
          refine j_goto hE 4 dX11_around_37 (by decide) ?_
          exact j_cast rfl (by first | (rw [arF, if_pos c22]; done) | (rw [arF, if_neg c22]; done)) (ih (i + 1) (by omega) (by omega))
  exact L4 (nn + 1) 0 (by omega) (by omega)

set_option maxHeartbeats 4000000 in
set_option maxRecDepth 100000 in
theorem c_X11_likeOf (l : Launch) (C : JC) (hC : JInj C) (S : Sto) (nn : Nat) (hnn : mcl S = nI nn) (hle : nn ≤ 25) (k : Nat) (hk : k < 5) : Con l C yX11_likeOf cX11_likeOf 2 (some .int) 3 [.ref (C.2.1 114), .int (nI k)] S (some (.int (mlkF S nn k))) (S) := by
  refine con_of RX11 0 [some (.ref (C.2.1 114)), some (.int (nI k))] (by decide) rfl hC (Nat.le_of_ble_eq_true rfl) rfl (Nat.le_of_ble_eq_true rfl) (fun E hE hR => ?_)
  refine j_aload0 hE dX11_likeOf_0 ?_
  refine j_V0i hE mX11_78 (c_X11_cells l C hC _) dX11_likeOf_1 (by first | assumption | rfl) (by decide) (Nat.le_of_ble_eq_true rfl) ?_
  refine j_aload0 hE dX11_likeOf_4 ?_
  refine j_V0i hE mX11_204 (c_X11_shows l C hC _ nn hnn hle) dX11_likeOf_5 (by first | assumption | rfl) (by decide) (Nat.le_of_ble_eq_true rfl) ?_
  refine j_aload0 hE dX11_likeOf_8 ?_
  refine j_getr hE fX11_19 dX11_likeOf_9 (j := 118) (by first | assumption | rfl) (rfl) ?_
  refine j_iload1 hE dX11_likeOf_12 ?_
  refine j_ialdN hE dX11_likeOf_13 (by first | assumption | rfl) (by omega) (by decide) ?_
  refine j_ixor hE dX11_likeOf_14 ?_
  refine j_S1i hE mX11_207 (c_X11_bits l C hC _ _) dX11_likeOf_15 (by decide) (Nat.le_of_ble_eq_true rfl) ?_
  refine j_isub hE dX11_likeOf_18 ?_
  exact j_iret hE hR dX11_likeOf_19 (rfl) (rfl)

set_option maxHeartbeats 4000000 in
set_option maxRecDepth 100000 in
theorem c_X11_whom (l : Launch) (C : JC) (hC : JInj C) (S : Sto) (nn : Nat) (hnn : mcl S = nI nn) (hle : nn ≤ 25) (nf : Nat) (hnf : S 114 7 = nI nf) (hfl : nf ≤ 5)  : Con l C yX11_whom cX11_whom 5 (some .int) 4 [.ref (C.2.1 114)] S (some (.int ((mwhF S nn nf).1))) (S) := by
  refine con_of RX11 4 [some (.ref (C.2.1 114)), none, none, none, none] (by decide) rfl hC (Nat.le_of_ble_eq_true rfl) rfl (Nat.le_of_ble_eq_true rfl) (fun E hE hR => ?_)
  refine j_iconst hE (-1) dX11_whom_0 kiconst_m1 ?_
  refine j_istore1 hE dX11_whom_1 rfl ?_
  refine j_iconst hE (-1) dX11_whom_2 kiconst_m1 ?_
  refine j_istore2 hE dX11_whom_3 rfl ?_
  refine j_iconst hE (nI 0) dX11_whom_4 kiconst_0 ?_
  refine j_istore3 hE dX11_whom_5 rfl ?_
  have L6 : ∀ (fu : Nat) (i : Nat) (x4 : Option Value), nf - i < fu → (i ≤ nf) → J C E S 6 [some (.ref (C.2.1 114)), some (.int (mwhF S nn i).1), some (.int (mwhF S nn i).2), some (.int (nI i)), x4] [] := by
    intro fu
    induction fu with
    | zero => intro i x4 hm; omega
    | succ fu ih =>
      intro i x4 hm hi
      refine j_iload3 hE dX11_whom_6 ?_
      refine j_aload0 hE dX11_whom_7 ?_
      refine j_geti hE fX11_92 dX11_whom_8 (by first | assumption | rfl) ?_
      refine j_icmpge hE 52 dX11_whom_11 (by decide) (fun c11 => ?_) (fun c11 => ?_)
      · skip
        rw [hnf] at c11
        have c11 := (nI_leI (by omega) (by omega)).mp c11
        have hii : i = nf := by omega
        subst hii
        refine j_iload1 hE dX11_whom_52 ?_
        exact j_iret hE hR dX11_whom_53 (rfl) (rfl)
      · skip
        rw [hnf] at c11
        have c11 : i < nf := Nat.lt_of_not_le (fun q => c11 (nI_le q (by omega)))
        refine j_aload0 hE dX11_whom_14 ?_
        refine j_iload3 hE dX11_whom_15 ?_
        refine j_V1i hE mX11_210 (c_X11_likeOf l C hC _ nn hnn hle i (by omega)) dX11_whom_16 (by first | assumption | rfl) (by decide) (Nat.le_of_ble_eq_true rfl) ?_
        refine j_istore4 hE dX11_whom_19 rfl ?_
        refine j_iload4 hE dX11_whom_21 ?_
        refine j_iload2 hE dX11_whom_23 ?_
        refine j_icmple hE 31 dX11_whom_24 (by decide) (fun c24 => ?_) (fun c24 => ?_)
        · skip
          refine j_iload1 hE dX11_whom_31 ?_
          refine j_istore1 hE dX11_whom_32 rfl ?_
          refine j_iload4 hE dX11_whom_33 ?_
          refine j_iload2 hE dX11_whom_35 ?_
          refine j_icmple hE 44 dX11_whom_36 (by decide) (fun c36 => ?_) (fun c36 => ?_)
          · skip
            refine j_iload2 hE dX11_whom_44 ?_
            refine j_istore2 hE dX11_whom_45 rfl ?_
            refine j_iinc3 hE (nI (i + 1)) dX11_whom_46 (nI_inc _) rfl ?_
            refine j_goto hE 6 dX11_whom_49 (by decide) ?_
            exact j_cast rfl (by rw [mwhF]; first | (rw [if_pos c24, if_pos c24]; done) | (rw [if_neg c24, if_neg c24]; done)) (ih (i + 1) _ (by omega) (by omega))
          · skip
            exact absurd c24 c36
        · skip
          refine j_iload3 hE dX11_whom_27 ?_
          refine j_goto hE 32 dX11_whom_28 (by decide) ?_
          refine j_istore1 hE dX11_whom_32 rfl ?_
          refine j_iload4 hE dX11_whom_33 ?_
          refine j_iload2 hE dX11_whom_35 ?_
          refine j_icmple hE 44 dX11_whom_36 (by decide) (fun c36 => ?_) (fun c36 => ?_)
          · skip
            exact absurd c36 c24
          · skip
            refine j_iload4 hE dX11_whom_39 ?_
            refine j_goto hE 45 dX11_whom_41 (by decide) ?_
            refine j_istore2 hE dX11_whom_45 rfl ?_
            refine j_iinc3 hE (nI (i + 1)) dX11_whom_46 (nI_inc _) rfl ?_
            refine j_goto hE 6 dX11_whom_49 (by decide) ?_
            exact j_cast rfl (by rw [mwhF]; first | (rw [if_pos c24, if_pos c24]; done) | (rw [if_neg c24, if_neg c24]; done)) (ih (i + 1) _ (by omega) (by omega))
  exact L6 (nf + 1) 0 none (by omega) (by omega)

set_option maxHeartbeats 4000000 in
set_option maxRecDepth 100000 in
theorem c_X11_mayBe (l : Launch) (C : JC) (hC : JInj C) (S : Sto) (nn : Nat) (hnn : mcl S = nI nn) (hle : nn ≤ 25) (nf : Nat) (hnf : S 114 7 = nI nf) (hfl : nf ≤ 5)  : Con l C yX11_mayBe cX11_mayBe 3 (some .int) 4 [.ref (C.2.1 114)] S (some (.int (mmbF S nn nf))) (S) := by
  refine con_of RX11 2 [some (.ref (C.2.1 114)), none, none] (by decide) rfl hC (Nat.le_of_ble_eq_true rfl) rfl (Nat.le_of_ble_eq_true rfl) (fun E hE hR => ?_)
  refine j_iconst hE (nI 0) dX11_mayBe_0 kiconst_0 ?_
  refine j_istore1 hE dX11_mayBe_1 rfl ?_
  refine j_iconst hE (nI 0) dX11_mayBe_2 kiconst_0 ?_
  refine j_istore2 hE dX11_mayBe_3 rfl ?_
  have L4 : ∀ (fu : Nat) (i : Nat), nf - i < fu → (i ≤ nf) → J C E S 4 [some (.ref (C.2.1 114)), some (.int (mmbF S nn i)), some (.int (nI i))] [] := by
    intro fu
    induction fu with
    | zero => intro i hm; omega
    | succ fu ih =>
      intro i hm hi
      refine j_iload2 hE dX11_mayBe_4 ?_
      refine j_aload0 hE dX11_mayBe_5 ?_
      refine j_geti hE fX11_92 dX11_mayBe_6 (by first | assumption | rfl) ?_
      refine j_icmpge hE 44 dX11_mayBe_9 (by decide) (fun c9 => ?_) (fun c9 => ?_)
      · skip
        rw [hnf] at c9
        have c9 := (nI_leI (by omega) (by omega)).mp c9
        have hii : i = nf := by omega
        subst hii
        refine j_iload1 hE dX11_mayBe_44 ?_
        exact j_iret hE hR dX11_mayBe_45 (rfl) (rfl)
      · skip
        rw [hnf] at c9
        have c9 : i < nf := Nat.lt_of_not_le (fun q => c9 (nI_le q (by omega)))
        refine j_iload1 hE dX11_mayBe_12 ?_
        refine j_aload0 hE dX11_mayBe_13 ?_
        refine j_V0i hE mX11_204 (c_X11_shows l C hC _ nn hnn hle) dX11_mayBe_14 (by first | assumption | rfl) (by decide) (Nat.le_of_ble_eq_true rfl) ?_
        refine j_aload0 hE dX11_mayBe_17 ?_
        refine j_getr hE fX11_19 dX11_mayBe_18 (j := 118) (by first | assumption | rfl) (rfl) ?_
        refine j_iload2 hE dX11_mayBe_21 ?_
        refine j_ialdN hE dX11_mayBe_22 (by first | assumption | rfl) (by omega) (by decide) ?_
        refine j_iconst hE (-1) dX11_mayBe_23 kiconst_m1 ?_
        refine j_ixor hE dX11_mayBe_24 ?_
        refine j_iand hE dX11_mayBe_25 ?_
        refine j_ifne hE 35 dX11_mayBe_26 (by decide) (fun c26 => ?_) (fun c26 => ?_)
        · skip
          refine j_iconst hE (nI 0) dX11_mayBe_35 kiconst_0 ?_
          refine j_ior hE dX11_mayBe_36 ?_
          refine j_istore1 hE dX11_mayBe_37 rfl ?_
          refine j_iinc2 hE (nI (i + 1)) dX11_mayBe_38 (nI_inc _) rfl ?_
          refine j_goto hE 4 dX11_mayBe_41 (by decide) ?_
          exact j_cast rfl (by first | (rw [mmbF, if_pos c26]; done) | (rw [mmbF, if_neg c26]; done)) (ih (i + 1) (by omega) (by omega))
        · skip
          refine j_iconst hE (nI 1) dX11_mayBe_29 kiconst_1 ?_
          refine j_iload2 hE dX11_mayBe_30 ?_
          refine j_ishl hE dX11_mayBe_31 ?_
          refine j_goto hE 36 dX11_mayBe_32 (by decide) ?_
          refine j_ior hE dX11_mayBe_36 ?_
          refine j_istore1 hE dX11_mayBe_37 rfl ?_
          refine j_iinc2 hE (nI (i + 1)) dX11_mayBe_38 (nI_inc _) rfl ?_
          refine j_goto hE 4 dX11_mayBe_41 (by decide) ?_
          exact j_cast rfl (by first | (rw [mmbF, if_pos c26]; done) | (rw [mmbF, if_neg c26]; done)) (ih (i + 1) (by omega) (by omega))
  exact L4 (nf + 1) 0 (by omega) (by omega)

set_option maxHeartbeats 4000000 in
set_option maxRecDepth 100000 in
theorem c_X11_groupOf (l : Launch) (C : JC) (hC : JInj C) (S : Sto) (nn : Nat) (hnn : mcl S = nI nn) (hle : nn ≤ 25) (hw : nn ≠ 0 → ¬ S 114 1 = 0) (x : Int32) : Con l C yX11_groupOf cX11_groupOf 7 (some .int) 4 [.ref (C.2.1 114), .int x] S (some (.int (mgpF S nn x 25))) (S) := by
  refine con_of RX11 5 [some (.ref (C.2.1 114)), some (.int x), none, none, none, none, none] (by decide) rfl hC (Nat.le_of_ble_eq_true rfl) rfl (Nat.le_of_ble_eq_true rfl) (fun E hE hR => ?_)
  refine j_aload0 hE dX11_groupOf_0 ?_
  refine j_V0i hE mX11_204 (c_X11_shows l C hC _ nn hnn hle) dX11_groupOf_1 (by first | assumption | rfl) (by decide) (Nat.le_of_ble_eq_true rfl) ?_
  refine j_istore2 hE dX11_groupOf_4 rfl ?_
  refine j_iconst hE (nI 1) dX11_groupOf_5 kiconst_1 ?_
  refine j_iload1 hE dX11_groupOf_6 ?_
  refine j_ishl hE dX11_groupOf_7 ?_
  refine j_istore3 hE dX11_groupOf_8 rfl ?_
  refine j_iconst hE (nI 0) dX11_groupOf_9 kiconst_0 ?_
  refine j_istore4 hE dX11_groupOf_10 rfl ?_
  have L12 : ∀ (fu : Nat) (i : Nat) (x5 x6 : Option Value), 25 - i < fu → (i ≤ 25) → J C E S 12 [some (.ref (C.2.1 114)), some (.int x), some (.int (mshF (S 119) nn)), some (.int (mgpF S nn x i)), some (.int (nI i)), x5, x6] [] := by
    intro fu
    induction fu with
    | zero => intro i x5 x6 hm; omega
    | succ fu ih =>
      intro i x5 x6 hm hi
      refine j_iload4 hE dX11_groupOf_12 ?_
      refine j_bipush hE (nI 25) dX11_groupOf_14 kbipush_25 ?_
      refine j_icmpge hE 75 dX11_groupOf_16 (by decide) (fun c16 => ?_) (fun c16 => ?_)
      · skip
        have c16 := (nI_leI (by omega) (by omega)).mp c16
        have hii : i = 25 := by omega
        subst hii
        refine j_iload3 hE dX11_groupOf_75 ?_
        exact j_iret hE hR dX11_groupOf_76 (rfl) (rfl)
      · skip
        have c16 : i < 25 := Nat.lt_of_not_le (fun q => c16 (nI_le q (by omega)))
        refine j_iload3 hE dX11_groupOf_19 ?_
        refine j_istore5 hE dX11_groupOf_20 rfl ?_
        refine j_iconst hE (nI 0) dX11_groupOf_22 kiconst_0 ?_
        refine j_istore6 hE dX11_groupOf_23 rfl ?_
        have L25 : ∀ (fu : Nat) (j : Nat), nn - j < fu → (j ≤ nn) → J C E S 25 [some (.ref (C.2.1 114)), some (.int x), some (.int (mshF (S 119) nn)), some (.int (mgpF S nn x i)), some (.int (nI i)), some (.int (mgrF S nn (mgpF S nn x i) j)), some (.int (nI j))] [] := by
          intro fu
          induction fu with
          | zero => intro j hm; omega
          | succ fu ih_ =>
            intro j hm hj
            refine j_iload6 hE dX11_groupOf_25 ?_
            refine j_aload0 hE dX11_groupOf_27 ?_
            refine j_V0i hE mX11_78 (c_X11_cells l C hC _) dX11_groupOf_28 (by first | assumption | rfl) (by decide) (Nat.le_of_ble_eq_true rfl) ?_
            refine j_icmpge hE 66 dX11_groupOf_31 (by decide) (fun c31 => ?_) (fun c31 => ?_)
            · skip
              rw [hnn] at c31
              have c31 := (nI_leI (by omega) (by omega)).mp c31
              have hii : j = nn := by omega
              subst hii
              refine j_iload5 hE dX11_groupOf_66 ?_
              refine j_istore3 hE dX11_groupOf_68 rfl ?_
              refine j_iinc4 hE (nI (i + 1)) dX11_groupOf_69 (nI_inc _) rfl ?_
              refine j_goto hE 12 dX11_groupOf_72 (by decide) ?_
              exact ih (i + 1) _ _ (by omega) (by omega)
            · skip
              rw [hnn] at c31
              have c31 : j < nn := Nat.lt_of_not_le (fun q => c31 (nI_le q (by omega)))
              refine j_iload5 hE dX11_groupOf_34 ?_
              refine j_iload3 hE dX11_groupOf_36 ?_
              refine j_iload6 hE dX11_groupOf_37 ?_
              refine j_S2i hE mX11_213 (c_X11_has l C hC _ _ _) dX11_groupOf_39 (by decide) (Nat.le_of_ble_eq_true rfl) ?_
              first | refine j_ifeqP hE 56 dX11_groupOf_42 (by decide) (fun c42 => ?_) (fun c42 => ?_) | refine j_ifeq hE 56 dX11_groupOf_42 (by decide) (fun c42 => ?_) (fun c42 => ?_)
              · skip
                refine j_iconst hE (nI 0) dX11_groupOf_56 kiconst_0 ?_
                refine j_ior hE dX11_groupOf_57 ?_
                refine j_istore5 hE dX11_groupOf_58 rfl ?_
                refine j_iinc6 hE (nI (j + 1)) dX11_groupOf_60 (nI_inc _) rfl ?_
                refine j_goto hE 25 dX11_groupOf_63 (by decide) ?_
                exact j_cast rfl (by first | (rw [mgrF, if_pos c42]; done) | (rw [mgrF, if_neg c42]; done)) (ih_ (j + 1) (by omega) (by omega))
              · skip
                refine j_aload0 hE dX11_groupOf_45 ?_
                refine j_iload6 hE dX11_groupOf_46 ?_
                refine j_V1i hE mX11_216 (c_X11_around l C hC _ nn hnn hle hw _) dX11_groupOf_48 (by first | assumption | rfl) (by decide) (Nat.le_of_ble_eq_true rfl) ?_
                refine j_iload2 hE dX11_groupOf_51 ?_
                refine j_iand hE dX11_groupOf_52 ?_
                refine j_goto hE 57 dX11_groupOf_53 (by decide) ?_
                refine j_ior hE dX11_groupOf_57 ?_
                refine j_istore5 hE dX11_groupOf_58 rfl ?_
                refine j_iinc6 hE (nI (j + 1)) dX11_groupOf_60 (nI_inc _) rfl ?_
                refine j_goto hE 25 dX11_groupOf_63 (by decide) ?_
                exact j_cast rfl (by first | (rw [mgrF, if_pos c42]; done) | (rw [mgrF, if_neg c42]; done)) (ih_ (j + 1) (by omega) (by omega))
        exact L25 (nn + 1) 0 (by omega) (by omega)
  exact L12 26 0 none none (by omega) (by omega)

set_option maxHeartbeats 4000000 in
set_option maxRecDepth 100000 in
theorem c_X11_groups (l : Launch) (C : JC) (hC : JInj C) (S : Sto) (nn : Nat) (hnn : mcl S = nI nn) (hle : nn ≤ 25) (hw : nn ≠ 0 → ¬ S 114 1 = 0) (b : Int32) : Con l C yX11_groups cX11_groups 7 (some .int) 5 [.ref (C.2.1 114), .int b] S (some (.int (if b = 0 then (mgsF S nn nn).2.1 else (mgsF S nn nn).2.2))) (S) := by
  refine con_of RX11 5 [some (.ref (C.2.1 114)), some (.int b), none, none, none, none, none] (by decide) rfl hC (Nat.le_of_ble_eq_true rfl) rfl (Nat.le_of_ble_eq_true rfl) (fun E hE hR => ?_)
  refine j_aload0 hE dX11_groups_0 ?_
  refine j_V0i hE mX11_204 (c_X11_shows l C hC _ nn hnn hle) dX11_groups_1 (by first | assumption | rfl) (by decide) (Nat.le_of_ble_eq_true rfl) ?_
  refine j_istore2 hE dX11_groups_4 rfl ?_
  refine j_iconst hE (nI 0) dX11_groups_5 kiconst_0 ?_
  refine j_istore3 hE dX11_groups_6 rfl ?_
  refine j_iconst hE (nI 0) dX11_groups_7 kiconst_0 ?_
  refine j_istore4 hE dX11_groups_8 rfl ?_
  refine j_iconst hE (nI 0) dX11_groups_10 kiconst_0 ?_
  refine j_istore5 hE dX11_groups_11 rfl ?_
  have L13 : ∀ (fu : Nat) (i : Nat) (x6 : Option Value), nn - i < fu → (i ≤ nn) → J C E S 13 [some (.ref (C.2.1 114)), some (.int b), some (.int (mgsF S nn i).1), some (.int (mgsF S nn i).2.1), some (.int (mgsF S nn i).2.2), some (.int (nI i)), x6] [] := by
    intro fu
    induction fu with
    | zero => intro i x6 hm; omega
    | succ fu ih =>
      intro i x6 hm hi
      refine j_iload5 hE dX11_groups_13 ?_
      refine j_aload0 hE dX11_groups_15 ?_
      refine j_V0i hE mX11_78 (c_X11_cells l C hC _) dX11_groups_16 (by first | assumption | rfl) (by decide) (Nat.le_of_ble_eq_true rfl) ?_
      refine j_icmpge hE 77 dX11_groups_19 (by decide) (fun c19 => ?_) (fun c19 => ?_)
      · skip
        rw [hnn] at c19
        have c19 := (nI_leI (by omega) (by omega)).mp c19
        have hii : i = nn := by omega
        subst hii
        refine j_iload1 hE dX11_groups_77 ?_
        refine j_ifeq hE 86 dX11_groups_78 (by decide) (fun c78 => ?_) (fun c78 => ?_)
        · skip
          refine j_iload3 hE dX11_groups_86 ?_
          exact j_iret hE hR dX11_groups_87 (by first
              | (rw [if_pos c78]; first | done | rfl)
              | (rw [if_neg c78]; first | done | rfl)) (rfl)
        · skip
          refine j_iload4 hE dX11_groups_81 ?_
          refine j_goto hE 87 dX11_groups_83 (by decide) ?_
          exact j_iret hE hR dX11_groups_87 (by first
              | (rw [if_pos c78]; first | done | rfl)
              | (rw [if_neg c78]; first | done | rfl)) (rfl)
      · skip
        rw [hnn] at c19
        have c19 : i < nn := Nat.lt_of_not_le (fun q => c19 (nI_le q (by omega)))
        refine j_iload2 hE dX11_groups_22 ?_
        refine j_iload5 hE dX11_groups_23 ?_
        refine j_S2i hE mX11_213 (c_X11_has l C hC _ _ _) dX11_groups_25 (by decide) (Nat.le_of_ble_eq_true rfl) ?_
        first | refine j_ifeqP hE 71 dX11_groups_28 (by decide) (fun c28 => ?_) (fun c28 => ?_) | refine j_ifeq hE 71 dX11_groups_28 (by decide) (fun c28 => ?_) (fun c28 => ?_)
        · skip
          refine j_iinc5 hE (nI (i + 1)) dX11_groups_71 (nI_inc _) rfl ?_
          refine j_goto hE 13 dX11_groups_74 (by decide) ?_
          exact j_cast rfl (by rw [mgsF]; first | (rw [if_pos c28, if_pos c59]; done) | (rw [if_pos c28, if_neg c59]; done) | (rw [if_neg c28]; done)) (ih (i + 1) _ (by omega) (by omega))
        · skip
          refine j_aload0 hE dX11_groups_31 ?_
          refine j_iload5 hE dX11_groups_32 ?_
          refine j_V1i hE mX11_219 (c_X11_groupOf l C hC _ nn hnn hle hw _) dX11_groups_34 (by first | assumption | rfl) (by decide) (Nat.le_of_ble_eq_true rfl) ?_
          refine j_istore6 hE dX11_groups_37 rfl ?_
          refine j_iload2 hE dX11_groups_39 ?_
          refine j_iload6 hE dX11_groups_40 ?_
          refine j_iconst hE (-1) dX11_groups_42 kiconst_m1 ?_
          refine j_ixor hE dX11_groups_43 ?_
          refine j_iand hE dX11_groups_44 ?_
          refine j_istore2 hE dX11_groups_45 rfl ?_
          refine j_iinc3 hE _ dX11_groups_46 rfl rfl ?_
          refine j_iload6 hE dX11_groups_49 ?_
          refine j_S1i hE mX11_207 (c_X11_bits l C hC _ _) dX11_groups_51 (by decide) (Nat.le_of_ble_eq_true rfl) ?_
          refine j_iload4 hE dX11_groups_54 ?_
          refine j_S1i hE mX11_207 (c_X11_bits l C hC _ _) dX11_groups_56 (by decide) (Nat.le_of_ble_eq_true rfl) ?_
          refine j_icmple hE 67 dX11_groups_59 (by decide) (fun c59 => ?_) (fun c59 => ?_)
          · skip
            refine j_iload4 hE dX11_groups_67 ?_
            refine j_istore4 hE dX11_groups_69 rfl ?_
            refine j_iinc5 hE (nI (i + 1)) dX11_groups_71 (nI_inc _) rfl ?_
            refine j_goto hE 13 dX11_groups_74 (by decide) ?_
            exact j_cast rfl (by rw [mgsF]; first | (rw [if_pos c28, if_pos c59]; done) | (rw [if_pos c28, if_neg c59]; done) | (rw [if_neg c28]; done)) (ih (i + 1) _ (by omega) (by omega))
          · skip
            refine j_iload6 hE dX11_groups_62 ?_
            refine j_goto hE 69 dX11_groups_64 (by decide) ?_
            refine j_istore4 hE dX11_groups_69 rfl ?_
            refine j_iinc5 hE (nI (i + 1)) dX11_groups_71 (nI_inc _) rfl ?_
            refine j_goto hE 13 dX11_groups_74 (by decide) ?_
            exact j_cast rfl (by rw [mgsF]; first | (rw [if_pos c28, if_pos c59]; done) | (rw [if_pos c28, if_neg c59]; done) | (rw [if_neg c28]; done)) (ih (i + 1) _ (by omega) (by omega))
  exact L13 (nn + 1) 0 none (by omega) (by omega)

set_option maxHeartbeats 4000000 in
set_option maxRecDepth 100000 in
theorem c_X11_border (l : Launch) (C : JC) (hC : JInj C) (S : Sto) (nn : Nat) (hnn : mcl S = nI nn) (hle : nn ≤ 25) (hw : nn ≠ 0 → ¬ S 114 1 = 0)  : Con l C yX11_border cX11_border 4 (some .int) 4 [.ref (C.2.1 114)] S (some (.int (mbdF S nn nn))) (S) := by
  refine con_of RX11 3 [some (.ref (C.2.1 114)), none, none, none] (by decide) rfl hC (Nat.le_of_ble_eq_true rfl) rfl (Nat.le_of_ble_eq_true rfl) (fun E hE hR => ?_)
  refine j_aload0 hE dX11_border_0 ?_
  refine j_V0i hE mX11_204 (c_X11_shows l C hC _ nn hnn hle) dX11_border_1 (by first | assumption | rfl) (by decide) (Nat.le_of_ble_eq_true rfl) ?_
  refine j_istore1 hE dX11_border_4 rfl ?_
  refine j_iconst hE (nI 0) dX11_border_5 kiconst_0 ?_
  refine j_istore2 hE dX11_border_6 rfl ?_
  refine j_iconst hE (nI 0) dX11_border_7 kiconst_0 ?_
  refine j_istore3 hE dX11_border_8 rfl ?_
  have L9 : ∀ (fu : Nat) (i : Nat), nn - i < fu → (i ≤ nn) → J C E S 9 [some (.ref (C.2.1 114)), some (.int (mshF (S 119) nn)), some (.int (mbdF S nn i)), some (.int (nI i))] [] := by
    intro fu
    induction fu with
    | zero => intro i hm; omega
    | succ fu ih =>
      intro i hm hi
      refine j_iload3 hE dX11_border_9 ?_
      refine j_aload0 hE dX11_border_10 ?_
      refine j_V0i hE mX11_78 (c_X11_cells l C hC _) dX11_border_11 (by first | assumption | rfl) (by decide) (Nat.le_of_ble_eq_true rfl) ?_
      refine j_icmpge hE 50 dX11_border_14 (by decide) (fun c14 => ?_) (fun c14 => ?_)
      · skip
        rw [hnn] at c14
        have c14 := (nI_leI (by omega) (by omega)).mp c14
        have hii : i = nn := by omega
        subst hii
        refine j_iload2 hE dX11_border_50 ?_
        exact j_iret hE hR dX11_border_51 (rfl) (rfl)
      · skip
        rw [hnn] at c14
        have c14 : i < nn := Nat.lt_of_not_le (fun q => c14 (nI_le q (by omega)))
        refine j_iload2 hE dX11_border_17 ?_
        refine j_iload1 hE dX11_border_18 ?_
        refine j_iload3 hE dX11_border_19 ?_
        refine j_S2i hE mX11_213 (c_X11_has l C hC _ _ _) dX11_border_20 (by decide) (Nat.le_of_ble_eq_true rfl) ?_
        first | refine j_ifeqP hE 41 dX11_border_23 (by decide) (fun c23 => ?_) (fun c23 => ?_) | refine j_ifeq hE 41 dX11_border_23 (by decide) (fun c23 => ?_) (fun c23 => ?_)
        · skip
          refine j_iconst hE (nI 0) dX11_border_41 kiconst_0 ?_
          refine j_iadd hE dX11_border_42 ?_
          refine j_istore2 hE dX11_border_43 rfl ?_
          refine j_iinc3 hE (nI (i + 1)) dX11_border_44 (nI_inc _) rfl ?_
          refine j_goto hE 9 dX11_border_47 (by decide) ?_
          exact j_cast rfl (by first | (rw [mbdF, if_pos c23]; done) | (rw [mbdF, if_neg c23]; done)) (ih (i + 1) (by omega) (by omega))
        · skip
          refine j_iconst hE (nI 4) dX11_border_26 kiconst_4 ?_
          refine j_aload0 hE dX11_border_27 ?_
          refine j_iload3 hE dX11_border_28 ?_
          refine j_V1i hE mX11_216 (c_X11_around l C hC _ nn hnn hle hw _) dX11_border_29 (by first | assumption | rfl) (by decide) (Nat.le_of_ble_eq_true rfl) ?_
          refine j_iload1 hE dX11_border_32 ?_
          refine j_iand hE dX11_border_33 ?_
          refine j_S1i hE mX11_207 (c_X11_bits l C hC _ _) dX11_border_34 (by decide) (Nat.le_of_ble_eq_true rfl) ?_
          refine j_isub hE dX11_border_37 ?_
          refine j_goto hE 42 dX11_border_38 (by decide) ?_
          refine j_iadd hE dX11_border_42 ?_
          refine j_istore2 hE dX11_border_43 rfl ?_
          refine j_iinc3 hE (nI (i + 1)) dX11_border_44 (nI_inc _) rfl ?_
          refine j_goto hE 9 dX11_border_47 (by decide) ?_
          exact j_cast rfl (by first | (rw [mbdF, if_pos c23]; done) | (rw [mbdF, if_neg c23]; done)) (ih (i + 1) (by omega) (by omega))
  exact L9 (nn + 1) 0 (by omega) (by omega)

set_option maxHeartbeats 4000000 in
set_option maxRecDepth 100000 in
theorem c_X11_fullest (l : Launch) (C : JC) (hC : JInj C) (S : Sto) (nn : Nat) (hnn : mcl S = nI nn) (hle : nn ≤ 25) (hh : Nat) (hhh : S 114 0 = nI hh) (hh25 : hh ≤ 25)  : Con l C yX11_fullest cX11_fullest 6 (some .int) 4 [.ref (C.2.1 114)] S (some (.int ((mfuF S nn hh).1))) (S) := by
  refine con_of RX11 5 [some (.ref (C.2.1 114)), none, none, none, none, none] (by decide) rfl hC (Nat.le_of_ble_eq_true rfl) rfl (Nat.le_of_ble_eq_true rfl) (fun E hE hR => ?_)
  refine j_aload0 hE dX11_fullest_0 ?_
  refine j_V0i hE mX11_204 (c_X11_shows l C hC _ nn hnn hle) dX11_fullest_1 (by first | assumption | rfl) (by decide) (Nat.le_of_ble_eq_true rfl) ?_
  refine j_istore1 hE dX11_fullest_4 rfl ?_
  refine j_iconst hE (-1) dX11_fullest_5 kiconst_m1 ?_
  refine j_istore2 hE dX11_fullest_6 rfl ?_
  refine j_iconst hE (nI 0) dX11_fullest_7 kiconst_0 ?_
  refine j_istore3 hE dX11_fullest_8 rfl ?_
  refine j_iconst hE (nI 0) dX11_fullest_9 kiconst_0 ?_
  refine j_istore4 hE dX11_fullest_10 rfl ?_
  have L12 : ∀ (fu : Nat) (i : Nat) (x5 : Option Value), hh - i < fu → (i ≤ hh) → J C E S 12 [some (.ref (C.2.1 114)), some (.int (mshF (S 119) nn)), some (.int (mfuF S nn i).1), some (.int (mfuF S nn i).2), some (.int (nI i)), x5] [] := by
    intro fu
    induction fu with
    | zero => intro i x5 hm; omega
    | succ fu ih =>
      intro i x5 hm hi
      refine j_iload4 hE dX11_fullest_12 ?_
      refine j_aload0 hE dX11_fullest_14 ?_
      refine j_geti hE fX11_72 dX11_fullest_15 (by first | assumption | rfl) ?_
      refine j_icmpge hE 76 dX11_fullest_18 (by decide) (fun c18 => ?_) (fun c18 => ?_)
      · skip
        rw [hhh] at c18
        have c18 := (nI_leI (by omega) (by omega)).mp c18
        have hii : i = hh := by omega
        subst hii
        refine j_iload2 hE dX11_fullest_76 ?_
        exact j_iret hE hR dX11_fullest_77 (rfl) (rfl)
      · skip
        rw [hhh] at c18
        have c18 : i < hh := Nat.lt_of_not_le (fun q => c18 (nI_le q (by omega)))
        refine j_iload1 hE dX11_fullest_21 ?_
        refine j_aload0 hE dX11_fullest_22 ?_
        refine j_geti hE fX11_75 dX11_fullest_23 (by first | assumption | rfl) ?_
        refine j_iload4 hE dX11_fullest_26 ?_
        refine j_imul hE dX11_fullest_28 ?_
        refine j_ishr hE dX11_fullest_29 ?_
        refine j_iconst hE (nI 1) dX11_fullest_30 kiconst_1 ?_
        refine j_aload0 hE dX11_fullest_31 ?_
        refine j_geti hE fX11_75 dX11_fullest_32 (by first | assumption | rfl) ?_
        refine j_ishl hE dX11_fullest_35 ?_
        refine j_iconst hE (nI 1) dX11_fullest_36 kiconst_1 ?_
        refine j_isub hE dX11_fullest_37 ?_
        refine j_iand hE dX11_fullest_38 ?_
        refine j_S1i hE mX11_207 (c_X11_bits l C hC _ _) dX11_fullest_39 (by decide) (Nat.le_of_ble_eq_true rfl) ?_
        refine j_istore5 hE dX11_fullest_42 rfl ?_
        refine j_iload5 hE dX11_fullest_44 ?_
        refine j_iload3 hE dX11_fullest_46 ?_
        refine j_icmple hE 55 dX11_fullest_47 (by decide) (fun c47 => ?_) (fun c47 => ?_)
        · skip
          have c47 : minR S nn i ≤ (mfuF S nn i).2 := c47
          refine j_iload2 hE dX11_fullest_55 ?_
          refine j_istore2 hE dX11_fullest_56 rfl ?_
          refine j_iload5 hE dX11_fullest_57 ?_
          refine j_iload3 hE dX11_fullest_59 ?_
          refine j_icmple hE 68 dX11_fullest_60 (by decide) (fun c60 => ?_) (fun c60 => ?_)
          · skip
            refine j_iload3 hE dX11_fullest_68 ?_
            refine j_istore3 hE dX11_fullest_69 rfl ?_
            refine j_iinc4 hE (nI (i + 1)) dX11_fullest_70 (nI_inc _) rfl ?_
            refine j_goto hE 12 dX11_fullest_73 (by decide) ?_
            exact j_cast rfl (by rw [mfuF]; first | (rw [if_pos c47, if_pos c47]; done) | (rw [if_neg c47, if_neg c47]; done) | (rw [if_neg c47, if_neg c47]; rfl)) (ih (i + 1) _ (by omega) (by omega))
          · skip
            exact absurd c47 c60
        · skip
          have c47 : ¬ minR S nn i ≤ (mfuF S nn i).2 := c47
          refine j_iload4 hE dX11_fullest_50 ?_
          refine j_goto hE 56 dX11_fullest_52 (by decide) ?_
          refine j_istore2 hE dX11_fullest_56 rfl ?_
          refine j_iload5 hE dX11_fullest_57 ?_
          refine j_iload3 hE dX11_fullest_59 ?_
          refine j_icmple hE 68 dX11_fullest_60 (by decide) (fun c60 => ?_) (fun c60 => ?_)
          · skip
            exact absurd c60 c47
          · skip
            refine j_iload5 hE dX11_fullest_63 ?_
            refine j_goto hE 69 dX11_fullest_65 (by decide) ?_
            refine j_istore3 hE dX11_fullest_69 rfl ?_
            refine j_iinc4 hE (nI (i + 1)) dX11_fullest_70 (nI_inc _) rfl ?_
            refine j_goto hE 12 dX11_fullest_73 (by decide) ?_
            exact j_cast rfl (by rw [mfuF]; first | (rw [if_pos c47, if_pos c47]; done) | (rw [if_neg c47, if_neg c47]; done) | (rw [if_neg c47, if_neg c47]; rfl)) (ih (i + 1) _ (by omega) (by omega))
  exact L12 (hh + 1) 0 none (by omega) (by omega)

set_option maxHeartbeats 4000000 in
set_option maxRecDepth 100000 in
theorem c_X11_allWet (l : Launch) (C : JC) (hC : JInj C) (S : Sto) (nn : Nat) (hnn : mcl S = nI nn) (hle : nn ≤ 25)  : Con l C yX11_allWet cX11_allWet 3 (some .int) 2 [.ref (C.2.1 114)] S (some (.int (wetF (S 119) nn))) (S) := by
  refine con_of RX11 2 [some (.ref (C.2.1 114)), none, none] (by decide) rfl hC (Nat.le_of_ble_eq_true rfl) rfl (Nat.le_of_ble_eq_true rfl) (fun E hE hR => ?_)
  refine j_iconst hE (nI 0) dX11_allWet_0 kiconst_0 ?_
  refine j_istore1 hE dX11_allWet_1 rfl ?_
  refine j_iconst hE (nI 0) dX11_allWet_2 kiconst_0 ?_
  refine j_istore2 hE dX11_allWet_3 rfl ?_
  have L4 : ∀ (fu : Nat) (i : Nat), nn - i < fu → (i ≤ nn) → J C E S 4 [some (.ref (C.2.1 114)), some (.int (wetF (S 119) i)), some (.int (nI i))] [] := by
    intro fu
    induction fu with
    | zero => intro i hm; omega
    | succ fu ih =>
      intro i hm hi
      refine j_iload2 hE dX11_allWet_4 ?_
      refine j_aload0 hE dX11_allWet_5 ?_
      refine j_V0i hE mX11_78 (c_X11_cells l C hC _) dX11_allWet_6 (by first | assumption | rfl) (by decide) (Nat.le_of_ble_eq_true rfl) ?_
      refine j_icmpge hE 27 dX11_allWet_9 (by decide) (fun c9 => ?_) (fun c9 => ?_)
      · skip
        rw [hnn] at c9
        have c9 := (nI_leI (by omega) (by omega)).mp c9
        have hii : i = nn := by omega
        subst hii
        refine j_iload1 hE dX11_allWet_27 ?_
        exact j_iret hE hR dX11_allWet_28 (rfl) (rfl)
      · skip
        rw [hnn] at c9
        have c9 : i < nn := Nat.lt_of_not_le (fun q => c9 (nI_le q (by omega)))
        refine j_iload1 hE dX11_allWet_12 ?_
        refine j_aload0 hE dX11_allWet_13 ?_
        refine j_getr hE fX11_22 dX11_allWet_14 (j := 119) (by first | assumption | rfl) (rfl) ?_
        refine j_iload2 hE dX11_allWet_17 ?_
        refine j_ialdN hE dX11_allWet_18 (by first | assumption | rfl) (by omega) (by decide) ?_
        refine j_iadd hE dX11_allWet_19 ?_
        refine j_istore1 hE dX11_allWet_20 rfl ?_
        refine j_iinc2 hE (nI (i + 1)) dX11_allWet_21 (nI_inc _) rfl ?_
        refine j_goto hE 4 dX11_allWet_24 (by decide) ?_
        exact ih (i + 1) (by omega) (by omega)
  exact L4 (nn + 1) 0 (by omega) (by omega)

def mtoldL (S : Sto) (nf nn hh : Nat) : List Int32 := [S 114 0, S 114 1, S 114 2, S 114 4, S 114 7, S 114 13, S 119 31, S 119 29, mshF (S 119) nn, S 119 30, S 119 32, S 119 33, wetF (S 119) nn, (mwhF S nn nf).1, mmbF S nn nf, (mgsF S nn nn).2.1, (mgsF S nn nn).2.2, mbdF S nn nn, (mfuF S nn hh).1, S 114 35, S 114 32]
def mtoldF (S : Sto) (nf nn hh : Nat) (w : Int32) : Int32 := if w.toInt < 0 ∨ 20 < w.toInt then -1000000002 else (mtoldL S nf nn hh).getD w.toNatClampNeg 0
set_option maxHeartbeats 4000000 in
set_option maxRecDepth 100000 in
theorem c_X11_told (l : Launch) (C : JC) (hC : JInj C) (S : Sto) (nn : Nat) (hnn : mcl S = nI nn) (hle : nn ≤ 25) (hw : nn ≠ 0 → ¬ S 114 1 = 0) (nf : Nat) (hnf : S 114 7 = nI nf) (hfl : nf ≤ 5) (hh : Nat) (hhh : S 114 0 = nI hh) (hh25 : hh ≤ 25) (w : Int32) : Con l C yX11_told cX11_told 2 (some .int) 6 [.ref (C.2.1 114), .int w] S (some (.int (mtoldF S nf nn hh w))) (S) := by
  refine con_of RX11 0 [some (.ref (C.2.1 114)), some (.int w)] (by decide) rfl hC (Nat.le_of_ble_eq_true rfl) rfl (Nat.le_of_ble_eq_true rfl) (fun E hE hR => ?_)
  refine j_iload1 hE dX11_told_0 ?_
  rcases sw_21 (w) with cs | cs | cs | cs | cs | cs | cs | cs | cs | cs | cs | cs | cs | cs | cs | cs | cs | cs | cs | cs | cs | cs
  · refine j_tabC hE 100 0 dX11_told_1 cs (by decide) (by decide) rfl (by decide) ?_
    subst cs
    refine j_aload0 hE dX11_told_100 ?_
    refine j_geti hE fX11_72 dX11_told_101 (by first | assumption | rfl) ?_
    exact j_iret hE hR dX11_told_104 (by rw [mtoldF, if_neg (by decide)]; rfl) (rfl)
  · refine j_tabC hE 105 1 dX11_told_1 cs (by decide) (by decide) rfl (by decide) ?_
    subst cs
    refine j_aload0 hE dX11_told_105 ?_
    refine j_geti hE fX11_75 dX11_told_106 (by first | assumption | rfl) ?_
    exact j_iret hE hR dX11_told_109 (by rw [mtoldF, if_neg (by decide)]; rfl) (rfl)
  · refine j_tabC hE 110 2 dX11_told_1 cs (by decide) (by decide) rfl (by decide) ?_
    subst cs
    refine j_aload0 hE dX11_told_110 ?_
    refine j_geti hE fX11_86 dX11_told_111 (by first | assumption | rfl) ?_
    exact j_iret hE hR dX11_told_114 (by rw [mtoldF, if_neg (by decide)]; rfl) (rfl)
  · refine j_tabC hE 115 3 dX11_told_1 cs (by decide) (by decide) rfl (by decide) ?_
    subst cs
    refine j_aload0 hE dX11_told_115 ?_
    refine j_geti hE fX11_89 dX11_told_116 (by first | assumption | rfl) ?_
    exact j_iret hE hR dX11_told_119 (by rw [mtoldF, if_neg (by decide)]; rfl) (rfl)
  · refine j_tabC hE 120 4 dX11_told_1 cs (by decide) (by decide) rfl (by decide) ?_
    subst cs
    refine j_aload0 hE dX11_told_120 ?_
    refine j_geti hE fX11_92 dX11_told_121 (by first | assumption | rfl) ?_
    exact j_iret hE hR dX11_told_124 (by rw [mtoldF, if_neg (by decide)]; rfl) (rfl)
  · refine j_tabC hE 125 5 dX11_told_1 cs (by decide) (by decide) rfl (by decide) ?_
    subst cs
    refine j_aload0 hE dX11_told_125 ?_
    refine j_geti hE fX11_98 dX11_told_126 (by first | assumption | rfl) ?_
    exact j_iret hE hR dX11_told_129 (by rw [mtoldF, if_neg (by decide)]; rfl) (rfl)
  · refine j_tabC hE 130 6 dX11_told_1 cs (by decide) (by decide) rfl (by decide) ?_
    subst cs
    refine j_aload0 hE dX11_told_130 ?_
    refine j_getr hE fX11_22 dX11_told_131 (j := 119) (by first | assumption | rfl) (rfl) ?_
    refine j_bipush hE (nI 31) dX11_told_134 kbipush_31 ?_
    refine j_ialdN hE dX11_told_136 (by first | assumption | rfl) (by omega) (by decide) ?_
    exact j_iret hE hR dX11_told_137 (by rw [mtoldF, if_neg (by decide)]; rfl) (rfl)
  · refine j_tabC hE 138 7 dX11_told_1 cs (by decide) (by decide) rfl (by decide) ?_
    subst cs
    refine j_aload0 hE dX11_told_138 ?_
    refine j_getr hE fX11_22 dX11_told_139 (j := 119) (by first | assumption | rfl) (rfl) ?_
    refine j_bipush hE (nI 29) dX11_told_142 kbipush_29 ?_
    refine j_ialdN hE dX11_told_144 (by first | assumption | rfl) (by omega) (by decide) ?_
    exact j_iret hE hR dX11_told_145 (by rw [mtoldF, if_neg (by decide)]; rfl) (rfl)
  · refine j_tabC hE 146 8 dX11_told_1 cs (by decide) (by decide) rfl (by decide) ?_
    subst cs
    refine j_aload0 hE dX11_told_146 ?_
    refine j_V0i hE mX11_204 (c_X11_shows l C hC _ nn hnn hle) dX11_told_147 (by first | assumption | rfl) (by decide) (Nat.le_of_ble_eq_true rfl) ?_
    exact j_iret hE hR dX11_told_150 (by rw [mtoldF, if_neg (by decide)]; rfl) (rfl)
  · refine j_tabC hE 151 9 dX11_told_1 cs (by decide) (by decide) rfl (by decide) ?_
    subst cs
    refine j_aload0 hE dX11_told_151 ?_
    refine j_getr hE fX11_22 dX11_told_152 (j := 119) (by first | assumption | rfl) (rfl) ?_
    refine j_bipush hE (nI 30) dX11_told_155 kbipush_30 ?_
    refine j_ialdN hE dX11_told_157 (by first | assumption | rfl) (by omega) (by decide) ?_
    exact j_iret hE hR dX11_told_158 (by rw [mtoldF, if_neg (by decide)]; rfl) (rfl)
  · refine j_tabC hE 159 10 dX11_told_1 cs (by decide) (by decide) rfl (by decide) ?_
    subst cs
    refine j_aload0 hE dX11_told_159 ?_
    refine j_getr hE fX11_22 dX11_told_160 (j := 119) (by first | assumption | rfl) (rfl) ?_
    refine j_bipush hE (nI 32) dX11_told_163 kbipush_32 ?_
    refine j_ialdN hE dX11_told_165 (by first | assumption | rfl) (by omega) (by decide) ?_
    exact j_iret hE hR dX11_told_166 (by rw [mtoldF, if_neg (by decide)]; rfl) (rfl)
  · refine j_tabC hE 167 11 dX11_told_1 cs (by decide) (by decide) rfl (by decide) ?_
    subst cs
    refine j_aload0 hE dX11_told_167 ?_
    refine j_getr hE fX11_22 dX11_told_168 (j := 119) (by first | assumption | rfl) (rfl) ?_
    refine j_bipush hE (nI 33) dX11_told_171 kbipush_33 ?_
    refine j_ialdN hE dX11_told_173 (by first | assumption | rfl) (by omega) (by decide) ?_
    exact j_iret hE hR dX11_told_174 (by rw [mtoldF, if_neg (by decide)]; rfl) (rfl)
  · refine j_tabC hE 175 12 dX11_told_1 cs (by decide) (by decide) rfl (by decide) ?_
    subst cs
    refine j_aload0 hE dX11_told_175 ?_
    refine j_V0i hE mX11_222 (c_X11_allWet l C hC _ nn hnn hle) dX11_told_176 (by first | assumption | rfl) (by decide) (Nat.le_of_ble_eq_true rfl) ?_
    exact j_iret hE hR dX11_told_179 (by rw [mtoldF, if_neg (by decide)]; rfl) (rfl)
  · refine j_tabC hE 180 13 dX11_told_1 cs (by decide) (by decide) rfl (by decide) ?_
    subst cs
    refine j_aload0 hE dX11_told_180 ?_
    refine j_V0i hE mX11_225 (c_X11_whom l C hC _ nn hnn hle nf hnf hfl) dX11_told_181 (by first | assumption | rfl) (by decide) (Nat.le_of_ble_eq_true rfl) ?_
    exact j_iret hE hR dX11_told_184 (by rw [mtoldF, if_neg (by decide)]; rfl) (rfl)
  · refine j_tabC hE 185 14 dX11_told_1 cs (by decide) (by decide) rfl (by decide) ?_
    subst cs
    refine j_aload0 hE dX11_told_185 ?_
    refine j_V0i hE mX11_228 (c_X11_mayBe l C hC _ nn hnn hle nf hnf hfl) dX11_told_186 (by first | assumption | rfl) (by decide) (Nat.le_of_ble_eq_true rfl) ?_
    exact j_iret hE hR dX11_told_189 (by rw [mtoldF, if_neg (by decide)]; rfl) (rfl)
  · refine j_tabC hE 190 15 dX11_told_1 cs (by decide) (by decide) rfl (by decide) ?_
    subst cs
    refine j_aload0 hE dX11_told_190 ?_
    refine j_iconst hE (nI 0) dX11_told_191 kiconst_0 ?_
    refine j_V1i hE mX11_231 (c_X11_groups l C hC _ nn hnn hle hw (nI 0)) dX11_told_192 (by first | assumption | rfl) (by decide) (Nat.le_of_ble_eq_true rfl) ?_
    exact j_iret hE hR dX11_told_195 (by rw [show (if nI 0 = 0 then (mgsF S nn nn).2.1 else (mgsF S nn nn).2.2) = (mgsF S nn nn).2.1 from if_pos rfl, mtoldF, if_neg (by decide)]; rfl) (rfl)
  · refine j_tabC hE 196 16 dX11_told_1 cs (by decide) (by decide) rfl (by decide) ?_
    subst cs
    refine j_aload0 hE dX11_told_196 ?_
    refine j_iconst hE (nI 1) dX11_told_197 kiconst_1 ?_
    refine j_V1i hE mX11_231 (c_X11_groups l C hC _ nn hnn hle hw (nI 1)) dX11_told_198 (by first | assumption | rfl) (by decide) (Nat.le_of_ble_eq_true rfl) ?_
    exact j_iret hE hR dX11_told_201 (by rw [show (if nI 1 = 0 then (mgsF S nn nn).2.1 else (mgsF S nn nn).2.2) = (mgsF S nn nn).2.2 from if_neg (by decide), mtoldF, if_neg (by decide)]; rfl) (rfl)
  · refine j_tabC hE 202 17 dX11_told_1 cs (by decide) (by decide) rfl (by decide) ?_
    subst cs
    refine j_aload0 hE dX11_told_202 ?_
    refine j_V0i hE mX11_235 (c_X11_border l C hC _ nn hnn hle hw) dX11_told_203 (by first | assumption | rfl) (by decide) (Nat.le_of_ble_eq_true rfl) ?_
    exact j_iret hE hR dX11_told_206 (by rw [mtoldF, if_neg (by decide)]; rfl) (rfl)
  · refine j_tabC hE 207 18 dX11_told_1 cs (by decide) (by decide) rfl (by decide) ?_
    subst cs
    refine j_aload0 hE dX11_told_207 ?_
    refine j_V0i hE mX11_238 (c_X11_fullest l C hC _ nn hnn hle hh hhh hh25) dX11_told_208 (by first | assumption | rfl) (by decide) (Nat.le_of_ble_eq_true rfl) ?_
    exact j_iret hE hR dX11_told_211 (by rw [mtoldF, if_neg (by decide)]; rfl) (rfl)
  · refine j_tabC hE 212 19 dX11_told_1 cs (by decide) (by decide) rfl (by decide) ?_
    subst cs
    refine j_aload0 hE dX11_told_212 ?_
    refine j_geti hE fX11_198 dX11_told_213 (by first | assumption | rfl) ?_
    exact j_iret hE hR dX11_told_216 (by rw [mtoldF, if_neg (by decide)]; rfl) (rfl)
  · refine j_tabC hE 217 20 dX11_told_1 cs (by decide) (by decide) rfl (by decide) ?_
    subst cs
    refine j_aload0 hE dX11_told_217 ?_
    refine j_geti hE fX11_201 dX11_told_218 (by first | assumption | rfl) ?_
    exact j_iret hE hR dX11_told_221 (by rw [mtoldF, if_neg (by decide)]; rfl) (rfl)
  · refine j_tabOut hE 222 dX11_told_1 (sw_out cs) (by decide) ?_
    refine j_ldc hE dX11_told_222 kX11_97 ?_
    exact j_iret hE hR dX11_told_224 (by rw [mtoldF, if_pos cs]) (rfl)

set_option maxHeartbeats 4000000 in
set_option maxRecDepth 100000 in
theorem c_X11_cell (l : Launch) (C : JC) (hC : JInj C) (S : Sto) (nn : Nat) (hnn : mcl S = nI nn) (hle : nn ≤ 25) (x : Int32) : Con l C yX11_cell cX11_cell 2 (some .int) 4 [.ref (C.2.1 114), .int x] S (some (.int (if isM (mcl S) x then S 119 x.toNatClampNeg else -1000000001))) (S) := by
  refine con_of RX11 0 [some (.ref (C.2.1 114)), some (.int x)] (by decide) rfl hC (Nat.le_of_ble_eq_true rfl) rfl (Nat.le_of_ble_eq_true rfl) (fun E hE hR => ?_)
  refine j_aload0 hE dX11_cell_0 ?_
  refine j_iload1 hE dX11_cell_1 ?_
  refine j_V1i hE mX11_241 (c_X11_isCell l C hC _ x) dX11_cell_2 (by first | assumption | rfl) (by decide) (Nat.le_of_ble_eq_true rfl) ?_
  first | refine j_ifeqP hE 17 dX11_cell_5 (by decide) (fun c5 => ?_) (fun c5 => ?_) | refine j_ifeq hE 17 dX11_cell_5 (by decide) (fun c5 => ?_) (fun c5 => ?_)
  · skip
    refine j_ldc hE dX11_cell_17 kX11_244 ?_
    exact j_iret hE hR dX11_cell_19 (by first
        | (rw [if_pos c5]; first | done | rfl)
        | (rw [if_neg c5]; first | done | rfl)) (rfl)
  · skip
    have hx := by rw [hnn] at c5; exact isM_n (by omega) c5
    refine j_aload0 hE dX11_cell_8 ?_
    refine j_getr hE fX11_22 dX11_cell_9 (j := 119) (by first | assumption | rfl) (rfl) ?_
    refine j_iload1 hE dX11_cell_12 ?_
    refine j_iald hE dX11_cell_13 (by first | assumption | rfl) (by obtain ⟨j, hj, rfl⟩ := hx; exact vp_in_nI (by omega) (by decide)) ?_
    refine j_goto hE 19 dX11_cell_14 (by decide) ?_
    exact j_iret hE hR dX11_cell_19 (by first
        | (rw [if_pos c5]; first | done | rfl)
        | (rw [if_neg c5]; first | done | rfl)) (rfl)

set_option maxHeartbeats 4000000 in
set_option maxRecDepth 100000 in
theorem c_X11_leak (l : Launch) (C : JC) (hC : JInj C) (S : Sto) (nl : Nat) (hnl : S 114 2 = nI nl) (hll : nl ≤ 4) (x : Int32) : Con l C yX11_leak cX11_leak 2 (some .int) 4 [.ref (C.2.1 114), .int x] S (some (.int (if isM (S 114 2) x then S 119 (25 + x.toNatClampNeg) else -1000000001))) (S) := by
  refine con_of RX11 0 [some (.ref (C.2.1 114)), some (.int x)] (by decide) rfl hC (Nat.le_of_ble_eq_true rfl) rfl (Nat.le_of_ble_eq_true rfl) (fun E hE hR => ?_)
  refine j_aload0 hE dX11_leak_0 ?_
  refine j_iload1 hE dX11_leak_1 ?_
  refine j_V1i hE mX11_245 (c_X11_isLeak l C hC _ x) dX11_leak_2 (by first | assumption | rfl) (by decide) (Nat.le_of_ble_eq_true rfl) ?_
  first | refine j_ifeqP hE 20 dX11_leak_5 (by decide) (fun c5 => ?_) (fun c5 => ?_) | refine j_ifeq hE 20 dX11_leak_5 (by decide) (fun c5 => ?_) (fun c5 => ?_)
  · skip
    refine j_ldc hE dX11_leak_20 kX11_244 ?_
    exact j_iret hE hR dX11_leak_22 (by first | (rw [if_neg c5]; done) | (rw [if_pos c5, nI_clamp (by omega)]; done)) (rfl)
  · skip
    have hx := by rw [hnl] at c5; exact isM_n (by omega) c5
    obtain ⟨j, hj, rfl⟩ := hx
    refine j_aload0 hE dX11_leak_8 ?_
    refine j_getr hE fX11_22 dX11_leak_9 (j := 119) (by first | assumption | rfl) (rfl) ?_
    refine j_bipush hE (nI 25) dX11_leak_12 kbipush_25 ?_
    refine j_iload1 hE dX11_leak_14 ?_
    refine j_iadd hE dX11_leak_15 ?_
    refine j_top (nI_add 25 j) ?_
    refine j_ialdN hE dX11_leak_16 (by first | assumption | rfl) (by omega) (by decide) ?_
    refine j_goto hE 22 dX11_leak_17 (by decide) ?_
    exact j_iret hE hR dX11_leak_22 (by first | (rw [if_neg c5]; done) | (rw [if_pos c5, nI_clamp (by omega)]; done)) (rfl)

set_option maxHeartbeats 4000000 in
set_option maxRecDepth 100000 in
theorem c_X11_crack (l : Launch) (C : JC) (hC : JInj C) (S : Sto) (nc : Nat) (hnc : S 114 4 = nI nc) (hcl : nc ≤ 6) (x w : Int32) : Con l C yX11_crack cX11_crack 3 (some .int) 4 [.ref (C.2.1 114), .int x, .int w] S (some (.int (if isM (S 114 4) x then sw3F w (S 116 x.toNatClampNeg) (S 117 x.toNatClampNeg) ((S 119 30 >>> (x &&& 31)) &&& nI 1) (-1000000002) else -1000000001))) (S) := by
  refine con_of RX11 0 [some (.ref (C.2.1 114)), some (.int x), some (.int w)] (by decide) rfl hC (Nat.le_of_ble_eq_true rfl) rfl (Nat.le_of_ble_eq_true rfl) (fun E hE hR => ?_)
  refine j_aload0 hE dX11_crack_0 ?_
  refine j_iload1 hE dX11_crack_1 ?_
  refine j_V1i hE mX11_248 (c_X11_isCrack l C hC _ x) dX11_crack_2 (by first | assumption | rfl) (by decide) (Nat.le_of_ble_eq_true rfl) ?_
  first | refine j_ifneP hE 11 dX11_crack_5 (by decide) (fun c5 => ?_) (fun c5 => ?_) | refine j_ifne hE 11 dX11_crack_5 (by decide) (fun c5 => ?_) (fun c5 => ?_)
  · skip
    have hx := by rw [hnc] at c5; exact isM_n (by omega) c5
    obtain ⟨j, hj, rfl⟩ := hx
    refine j_iload2 hE dX11_crack_11 ?_
    rcases sw_3 (w) with cs | cs | cs | cs
    · refine j_tabC hE 40 0 dX11_crack_12 cs (by decide) (by decide) rfl (by decide) ?_
      subst cs
      refine j_aload0 hE dX11_crack_40 ?_
      refine j_getr hE fX11_13 dX11_crack_41 (j := 116) (by first | assumption | rfl) (rfl) ?_
      refine j_iload1 hE dX11_crack_44 ?_
      refine j_ialdN hE dX11_crack_45 (by first | assumption | rfl) (by omega) (by decide) ?_
      exact j_iret hE hR dX11_crack_46 (by rw [if_pos c5, sw3_0, nI_clamp (by omega)]) (rfl)
    · refine j_tabC hE 47 1 dX11_crack_12 cs (by decide) (by decide) rfl (by decide) ?_
      subst cs
      refine j_aload0 hE dX11_crack_47 ?_
      refine j_getr hE fX11_16 dX11_crack_48 (j := 117) (by first | assumption | rfl) (rfl) ?_
      refine j_iload1 hE dX11_crack_51 ?_
      refine j_ialdN hE dX11_crack_52 (by first | assumption | rfl) (by omega) (by decide) ?_
      exact j_iret hE hR dX11_crack_53 (by rw [if_pos c5, sw3_1, nI_clamp (by omega)]) (rfl)
    · refine j_tabC hE 54 2 dX11_crack_12 cs (by decide) (by decide) rfl (by decide) ?_
      subst cs
      refine j_aload0 hE dX11_crack_54 ?_
      refine j_getr hE fX11_22 dX11_crack_55 (j := 119) (by first | assumption | rfl) (rfl) ?_
      refine j_bipush hE (nI 30) dX11_crack_58 kbipush_30 ?_
      refine j_ialdN hE dX11_crack_60 (by first | assumption | rfl) (by omega) (by decide) ?_
      refine j_iload1 hE dX11_crack_61 ?_
      refine j_ishr hE dX11_crack_62 ?_
      refine j_iconst hE (nI 1) dX11_crack_63 kiconst_1 ?_
      refine j_iand hE dX11_crack_64 ?_
      exact j_iret hE hR dX11_crack_65 (by rw [if_pos c5, sw3_2]) (rfl)
    · refine j_tabOut hE 66 dX11_crack_12 (sw_out cs) (by decide) ?_
      refine j_ldc hE dX11_crack_66 kX11_97 ?_
      exact j_iret hE hR dX11_crack_68 (by rw [if_pos c5, sw3_d cs]) (rfl)
  · skip
    refine j_ldc hE dX11_crack_8 kX11_244 ?_
    exact j_iret hE hR dX11_crack_10 (by first
        | (rw [if_neg c5]; first | done | rfl)) (rfl)

set_option maxHeartbeats 4000000 in
set_option maxRecDepth 100000 in
theorem c_X11_likeness (l : Launch) (C : JC) (hC : JInj C) (S : Sto) (nn : Nat) (hnn : mcl S = nI nn) (hle : nn ≤ 25) (nf : Nat) (hnf : S 114 7 = nI nf) (hfl : nf ≤ 5) (x w : Int32) : Con l C yX11_likeness cX11_likeness 3 (some .int) 4 [.ref (C.2.1 114), .int x, .int w] S (some (.int (if isM (S 114 7) x then sw3F w (S 118 x.toNatClampNeg) (mlkF S nn x.toNatClampNeg) (bitsF (mshF (S 119) nn &&& (S 118 x.toNatClampNeg ^^^ (-1))) 25) (-1000000002) else -1000000001))) (S) := by
  refine con_of RX11 0 [some (.ref (C.2.1 114)), some (.int x), some (.int w)] (by decide) rfl hC (Nat.le_of_ble_eq_true rfl) rfl (Nat.le_of_ble_eq_true rfl) (fun E hE hR => ?_)
  refine j_aload0 hE dX11_likeness_0 ?_
  refine j_iload1 hE dX11_likeness_1 ?_
  refine j_V1i hE mX11_251 (c_X11_isLike l C hC _ x) dX11_likeness_2 (by first | assumption | rfl) (by decide) (Nat.le_of_ble_eq_true rfl) ?_
  first | refine j_ifneP hE 11 dX11_likeness_5 (by decide) (fun c5 => ?_) (fun c5 => ?_) | refine j_ifne hE 11 dX11_likeness_5 (by decide) (fun c5 => ?_) (fun c5 => ?_)
  · skip
    have hx := by rw [hnf] at c5; exact isM_n (by omega) c5
    obtain ⟨j, hj, rfl⟩ := hx
    refine j_iload2 hE dX11_likeness_11 ?_
    rcases sw_3 (w) with cs | cs | cs | cs
    · refine j_tabC hE 40 0 dX11_likeness_12 cs (by decide) (by decide) rfl (by decide) ?_
      subst cs
      refine j_aload0 hE dX11_likeness_40 ?_
      refine j_getr hE fX11_19 dX11_likeness_41 (j := 118) (by first | assumption | rfl) (rfl) ?_
      refine j_iload1 hE dX11_likeness_44 ?_
      refine j_ialdN hE dX11_likeness_45 (by first | assumption | rfl) (by omega) (by decide) ?_
      exact j_iret hE hR dX11_likeness_46 (by rw [if_pos c5, sw3_0, nI_clamp (by omega)]) (rfl)
    · refine j_tabC hE 47 1 dX11_likeness_12 cs (by decide) (by decide) rfl (by decide) ?_
      subst cs
      refine j_aload0 hE dX11_likeness_47 ?_
      refine j_iload1 hE dX11_likeness_48 ?_
      refine j_V1i hE mX11_210 (c_X11_likeOf l C hC _ nn hnn hle j (by omega)) dX11_likeness_49 (by first | assumption | rfl) (by decide) (Nat.le_of_ble_eq_true rfl) ?_
      exact j_iret hE hR dX11_likeness_52 (by rw [if_pos c5, sw3_1, nI_clamp (by omega)]) (rfl)
    · refine j_tabC hE 53 2 dX11_likeness_12 cs (by decide) (by decide) rfl (by decide) ?_
      subst cs
      refine j_aload0 hE dX11_likeness_53 ?_
      refine j_V0i hE mX11_204 (c_X11_shows l C hC _ nn hnn hle) dX11_likeness_54 (by first | assumption | rfl) (by decide) (Nat.le_of_ble_eq_true rfl) ?_
      refine j_aload0 hE dX11_likeness_57 ?_
      refine j_getr hE fX11_19 dX11_likeness_58 (j := 118) (by first | assumption | rfl) (rfl) ?_
      refine j_iload1 hE dX11_likeness_61 ?_
      refine j_ialdN hE dX11_likeness_62 (by first | assumption | rfl) (by omega) (by decide) ?_
      refine j_iconst hE (-1) dX11_likeness_63 kiconst_m1 ?_
      refine j_ixor hE dX11_likeness_64 ?_
      refine j_iand hE dX11_likeness_65 ?_
      refine j_S1i hE mX11_207 (c_X11_bits l C hC _ _) dX11_likeness_66 (by decide) (Nat.le_of_ble_eq_true rfl) ?_
      exact j_iret hE hR dX11_likeness_69 (by rw [if_pos c5, sw3_2, nI_clamp (by omega)]) (rfl)
    · refine j_tabOut hE 70 dX11_likeness_12 (sw_out cs) (by decide) ?_
      refine j_ldc hE dX11_likeness_70 kX11_97 ?_
      exact j_iret hE hR dX11_likeness_72 (by rw [if_pos c5, sw3_d cs]) (rfl)
  · skip
    refine j_ldc hE dX11_likeness_8 kX11_244 ?_
    exact j_iret hE hR dX11_likeness_10 (by first
        | (rw [if_neg c5]; first | done | rfl)) (rfl)

