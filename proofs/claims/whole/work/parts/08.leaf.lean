theorem up2_upA (S : Sto) (a : Nat) (f : Nat → Int32) (k : Nat) (v : Int32) : up2 (upA S a f) a k v = upA S a (upd f k v) := by
  funext j
  unfold up2 upA
  by_cases h : j = a <;> simp [h]
theorem upA_upA (S : Sto) (a : Nat) (f g : Nat → Int32) : upA (upA S a f) a g = upA S a g := by
  funext j
  unfold upA
  by_cases h : j = a <;> simp [h]
theorem upA_self (S : Sto) (a : Nat) : upA S a (S a) = S := by
  funext j
  unfold upA
  by_cases h : j = a <;> simp [h]
def bcF (x0 : Int32) : Int32 :=
  let x1 := x0 - ((x0.toUInt32 >>> ((nI 1).toUInt32 &&& Int32.toUInt32 31)).toInt32 &&& 1431655765)
  let x2 := (x1 &&& 858993459) + ((x1.toUInt32 >>> ((nI 2).toUInt32 &&& Int32.toUInt32 31)).toInt32 &&& 858993459)
  let x3 := (x2 + (x2.toUInt32 >>> ((nI 4).toUInt32 &&& Int32.toUInt32 31)).toInt32) &&& 252645135
  let x4 := x3 + (x3.toUInt32 >>> ((nI 8).toUInt32 &&& Int32.toUInt32 31)).toInt32
  let x5 := x4 + (x4.toUInt32 >>> ((nI 16).toUInt32 &&& Int32.toUInt32 31)).toInt32
  x5 &&& nI 63
def minF (a b : Int32) : Int32 := if b < a then b else a
def maxF (a b : Int32) : Int32 := if a < b then b else a
def pickF (n : Nat) (f : Nat → Int32) (i : Int32) : Int32 := if i < 0 ∨ nI n ≤ i then nI 0 else f i.toNatClampNeg
def putS (n : Nat) (S : Sto) (a : Nat) (i v : Int32) : Sto := if i < 0 ∨ nI n ≤ i then S else up2 S a i.toNatClampNeg v
theorem fa_nle {a b : Int32} (h : ¬ a ≤ b) : b < a := by
  rw [Int32.le_iff_toInt_le] at h
  rw [Int32.lt_iff_toInt_lt]
  omega
theorem fa_nlt {a b : Int32} (h : b < a) : ¬ a ≤ b := by
  rw [Int32.lt_iff_toInt_lt] at h
  rw [Int32.le_iff_toInt_le]
  omega
theorem vp_in_of2 {i : Int32} {n : Nat} (hn : n < 2 ^ 31) (h1 : ¬ i < 0) (h2 : ¬ nI n ≤ i) : vp_in i n := by
  obtain ⟨j, hj, rfl⟩ := nI_of h1
  exact vp_in_nI (by
    rcases Nat.lt_or_ge j n with q | q
    · exact q
    · exact absurd (nI_le q hj) h2) hn
theorem pickN {n : Nat} {f : Nat → Int32} {x : Nat} (h : x < n) (hn : n < 2 ^ 31) : pickF n f (nI x) = f x := by
  unfold pickF
  rw [if_neg (fun q => q.elim (nI_pos (Nat.lt_trans h hn)) (nI_ge h hn)), nI_clamp (Nat.lt_trans h hn)]
theorem putN {n : Nat} {S : Sto} {a x : Nat} {v : Int32} (h : x < n) (hn : n < 2 ^ 31) : putS n S a (nI x) v = up2 S a x v := by
  unfold putS
  rw [if_neg (fun q => q.elim (nI_pos (Nat.lt_trans h hn)) (nI_ge h hn)), nI_clamp (Nat.lt_trans h hn)]
set_option maxHeartbeats 4000000 in
set_option maxRecDepth 100000 in
theorem c_J6_bitCount_0f7a4 (l : Launch) (C : JC) (hC : JInj C) (S : Sto) (x : Int32) : Con l C yJ6_bitCount_0f7a4 cJ6_bitCount_0f7a4 1 (some .int) 1 [.int x] S (some (.int (bcF x))) (S) := by
  refine con_of RJ6 0 [some (.int x)] (by decide) rfl hC (Nat.le_of_ble_eq_true rfl) rfl (Nat.le_of_ble_eq_true rfl) (fun E hE hR => ?_)
  refine j_iload0 hE dJ6_bitCount_0f7a4_0 ?_
  refine j_iload0 hE dJ6_bitCount_0f7a4_1 ?_
  refine j_iconst hE (nI 1) dJ6_bitCount_0f7a4_2 kiconst_1 ?_
  refine j_iushr hE dJ6_bitCount_0f7a4_3 ?_
  refine j_ldcw hE dJ6_bitCount_0f7a4_4 kJ6_265 ?_
  refine j_iand hE dJ6_bitCount_0f7a4_7 ?_
  refine j_isub hE dJ6_bitCount_0f7a4_8 ?_
  refine j_istore0 hE dJ6_bitCount_0f7a4_9 ?_
  refine j_iload0 hE dJ6_bitCount_0f7a4_10 ?_
  refine j_ldcw hE dJ6_bitCount_0f7a4_11 kJ6_266 ?_
  refine j_iand hE dJ6_bitCount_0f7a4_14 ?_
  refine j_iload0 hE dJ6_bitCount_0f7a4_15 ?_
  refine j_iconst hE (nI 2) dJ6_bitCount_0f7a4_16 kiconst_2 ?_
  refine j_iushr hE dJ6_bitCount_0f7a4_17 ?_
  refine j_ldcw hE dJ6_bitCount_0f7a4_18 kJ6_266 ?_
  refine j_iand hE dJ6_bitCount_0f7a4_21 ?_
  refine j_iadd hE dJ6_bitCount_0f7a4_22 ?_
  refine j_istore0 hE dJ6_bitCount_0f7a4_23 ?_
  refine j_iload0 hE dJ6_bitCount_0f7a4_24 ?_
  refine j_iload0 hE dJ6_bitCount_0f7a4_25 ?_
  refine j_iconst hE (nI 4) dJ6_bitCount_0f7a4_26 kiconst_4 ?_
  refine j_iushr hE dJ6_bitCount_0f7a4_27 ?_
  refine j_iadd hE dJ6_bitCount_0f7a4_28 ?_
  refine j_ldcw hE dJ6_bitCount_0f7a4_29 kJ6_267 ?_
  refine j_iand hE dJ6_bitCount_0f7a4_32 ?_
  refine j_istore0 hE dJ6_bitCount_0f7a4_33 ?_
  refine j_iload0 hE dJ6_bitCount_0f7a4_34 ?_
  refine j_iload0 hE dJ6_bitCount_0f7a4_35 ?_
  refine j_bipush hE (nI 8) dJ6_bitCount_0f7a4_36 kbipush_8 ?_
  refine j_iushr hE dJ6_bitCount_0f7a4_38 ?_
  refine j_iadd hE dJ6_bitCount_0f7a4_39 ?_
  refine j_istore0 hE dJ6_bitCount_0f7a4_40 ?_
  refine j_iload0 hE dJ6_bitCount_0f7a4_41 ?_
  refine j_iload0 hE dJ6_bitCount_0f7a4_42 ?_
  refine j_bipush hE (nI 16) dJ6_bitCount_0f7a4_43 kbipush_16 ?_
  refine j_iushr hE dJ6_bitCount_0f7a4_45 ?_
  refine j_iadd hE dJ6_bitCount_0f7a4_46 ?_
  refine j_istore0 hE dJ6_bitCount_0f7a4_47 ?_
  refine j_iload0 hE dJ6_bitCount_0f7a4_48 ?_
  refine j_bipush hE (nI 63) dJ6_bitCount_0f7a4_49 kbipush_63 ?_
  refine j_iand hE dJ6_bitCount_0f7a4_51 ?_
  exact j_iret hE hR dJ6_bitCount_0f7a4_52 (rfl) (rfl)

theorem j_mmin {l : Launch} {C : JC} {E : JE} {own : String} {cc : ByteArray} {d : Nat} {S : Sto} {pc : Nat} {lv : List (Option Value)} {rest : List Value} (hE : Jok l C E own cc d) {idx : Nat} (hc : CS own idx yJ9_min_7cf53 cJ9_min_7cf53 2 (some .int) 2) {x y : Int32} (hd : decode cc pc = .ok (.invokestatic idx, 3)) (hd' : 1 ≤ d) (hr : (rest.map fun v => v.category).sum ≤ 8) (kk : J C E S (pc + 3) lv (.int (minF x y) :: rest)) : J C E S pc lv (.int y :: .int x :: rest) := by
  obtain ⟨p, l0, e, R, s, m, args, below, meth, c, A, cells, slots, nL, Q⟩ := E
  obtain ⟨rfl, hx, hb, hml, hown, hts, hK, hN, hC, hA, hfr, hlo, hce, hsl⟩ := hE
  obtain ⟨⟨c1, c2, c3, c4⟩, c5, c6⟩ := hc
  intro H locs ls hP hS hv
  exact va_mmin hx hb (hml.trans hv.1.symm) hown (hts _ c5) (hts _ c6) (hts _ c2) (hts _ c1) (Nat.le_trans hd' hfr) (Nat.le_trans (by omega : _ ≤ 128 * d) hlo) hce hsl hd (kk H locs ls hP hS hv)
theorem j_mmax {l : Launch} {C : JC} {E : JE} {own : String} {cc : ByteArray} {d : Nat} {S : Sto} {pc : Nat} {lv : List (Option Value)} {rest : List Value} (hE : Jok l C E own cc d) {idx : Nat} (hc : CS own idx yJ9_max_7cf53 cJ9_max_7cf53 2 (some .int) 2) {x y : Int32} (hd : decode cc pc = .ok (.invokestatic idx, 3)) (hd' : 1 ≤ d) (hr : (rest.map fun v => v.category).sum ≤ 8) (kk : J C E S (pc + 3) lv (.int (maxF x y) :: rest)) : J C E S pc lv (.int y :: .int x :: rest) := by
  obtain ⟨p, l0, e, R, s, m, args, below, meth, c, A, cells, slots, nL, Q⟩ := E
  obtain ⟨rfl, hx, hb, hml, hown, hts, hK, hN, hC, hA, hfr, hlo, hce, hsl⟩ := hE
  obtain ⟨⟨c1, c2, c3, c4⟩, c5, c6⟩ := hc
  intro H locs ls hP hS hv
  exact va_mmax hx hb (hml.trans hv.1.symm) hown (hts _ c5) (hts _ c6) (hts _ c2) (hts _ c1) (Nat.le_trans hd' hfr) (Nat.le_trans (by omega : _ ≤ 128 * d) hlo) hce hsl hd (kk H locs ls hP hS hv)
set_option maxHeartbeats 4000000 in
set_option maxRecDepth 100000 in
theorem c_X10_outside (l : Launch) (C : JC) (hC : JInj C) (S : Sto) (v a b : Int32) : Con l C yX10_outside cX10_outside 3 (some .boolean) 1 [.int v, .int a, .int b] S (some (.int (if v < a ∨ b < v then nI 1 else nI 0))) (S) := by
  refine con_of RX10 0 [some (.int v), some (.int a), some (.int b)] (by decide) rfl hC (Nat.le_of_ble_eq_true rfl) rfl (Nat.le_of_ble_eq_true rfl) (fun E hE hR => ?_)
  refine j_iload0 hE dX10_outside_0 ?_
  refine j_iload1 hE dX10_outside_1 ?_
  refine j_icmplt hE 10 dX10_outside_2 (by decide) (fun c2 => ?_) (fun c2 => ?_)
  · skip
    refine j_iconst hE (nI 1) dX10_outside_10 kiconst_1 ?_
    refine j_goto hE 15 dX10_outside_11 (by decide) ?_
    exact j_zret hE hR dX10_outside_15 (by first
        | (rw [if_pos (Or.inl c2)]; done)
        | (rw [if_pos (Or.inr (fa_nle c7))]; done)
        | (rw [if_neg (fun q => q.elim c2 (fun z => absurd c7 (fa_nlt z)))]; done)) (rfl) nar_c
  · skip
    refine j_iload0 hE dX10_outside_5 ?_
    refine j_iload2 hE dX10_outside_6 ?_
    refine j_icmple hE 14 dX10_outside_7 (by decide) (fun c7 => ?_) (fun c7 => ?_)
    · skip
      refine j_iconst hE (nI 0) dX10_outside_14 kiconst_0 ?_
      exact j_zret hE hR dX10_outside_15 (by first
          | (rw [if_pos (Or.inl c2)]; done)
          | (rw [if_pos (Or.inr (fa_nle c7))]; done)
          | (rw [if_neg (fun q => q.elim c2 (fun z => absurd c7 (fa_nlt z)))]; done)) (rfl) nar_c
    · skip
      refine j_iconst hE (nI 1) dX10_outside_10 kiconst_1 ?_
      refine j_goto hE 15 dX10_outside_11 (by decide) ?_
      exact j_zret hE hR dX10_outside_15 (by first
          | (rw [if_pos (Or.inl c2)]; done)
          | (rw [if_pos (Or.inr (fa_nle c7))]; done)
          | (rw [if_neg (fun q => q.elim c2 (fun z => absurd c7 (fa_nlt z)))]; done)) (rfl) nar_c

set_option maxHeartbeats 4000000 in
set_option maxRecDepth 100000 in
theorem c_X10_pick (l : Launch) (C : JC) (hC : JInj C) (S : Sto) (a n : Nat) (hs : jsh a = (1, n)) (hn : n < 2 ^ 31) (i : Int32) : Con l C yX10_pick cX10_pick 2 (some .int) 1 [.ref (C.2.1 a), .int i] S (some (.int (pickF n (S a) i))) (S) := by
  refine con_of RX10 0 [some (.ref (C.2.1 a)), some (.int i)] (by decide) rfl hC (Nat.le_of_ble_eq_true rfl) rfl (Nat.le_of_ble_eq_true rfl) (fun E hE hR => ?_)
  refine j_iload1 hE dX10_pick_0 ?_
  refine j_iflt hE 16 dX10_pick_1 (by decide) (fun c1 => ?_) (fun c1 => ?_)
  · skip
    refine j_iconst hE (nI 0) dX10_pick_16 kiconst_0 ?_
    exact j_iret hE hR dX10_pick_17 (by first
        | (rw [pickF, if_pos (Or.inl c1)]; done)
        | (rw [pickF, if_pos (Or.inr c7)]; done)
        | (rw [pickF, if_neg (fun q => q.elim c1 c7)]; done)) (rfl)
  · skip
    refine j_iload1 hE dX10_pick_4 ?_
    refine j_aload0 hE dX10_pick_5 ?_
    refine j_alen hE dX10_pick_6 (nI n) hs rfl ?_
    refine j_icmpge hE 16 dX10_pick_7 (by decide) (fun c7 => ?_) (fun c7 => ?_)
    · skip
      refine j_iconst hE (nI 0) dX10_pick_16 kiconst_0 ?_
      exact j_iret hE hR dX10_pick_17 (by first
          | (rw [pickF, if_pos (Or.inl c1)]; done)
          | (rw [pickF, if_pos (Or.inr c7)]; done)
          | (rw [pickF, if_neg (fun q => q.elim c1 c7)]; done)) (rfl)
    · skip
      refine j_aload0 hE dX10_pick_10 ?_
      refine j_iload1 hE dX10_pick_11 ?_
      refine j_iald hE dX10_pick_12 (by first | assumption | rfl) (vp_in_of2 hn c1 c7) ?_
      refine j_goto hE 17 dX10_pick_13 (by decide) ?_
      exact j_iret hE hR dX10_pick_17 (by first
          | (rw [pickF, if_pos (Or.inl c1)]; done)
          | (rw [pickF, if_pos (Or.inr c7)]; done)
          | (rw [pickF, if_neg (fun q => q.elim c1 c7)]; done)) (rfl)

set_option maxHeartbeats 4000000 in
set_option maxRecDepth 100000 in
theorem c_X10_put (l : Launch) (C : JC) (hC : JInj C) (S : Sto) (a n : Nat) (hs : jsh a = (1, n)) (hn : n < 2 ^ 31) (i v : Int32) : Con l C yX10_put cX10_put 3 none 1 [.ref (C.2.1 a), .int i, .int v] S none (putS n S a i v) := by
  refine con_of RX10 0 [some (.ref (C.2.1 a)), some (.int i), some (.int v)] (by decide) rfl hC (Nat.le_of_ble_eq_true rfl) rfl (Nat.le_of_ble_eq_true rfl) (fun E hE hR => ?_)
  refine j_iload1 hE dX10_put_0 ?_
  refine j_iflt hE 14 dX10_put_1 (by decide) (fun c1 => ?_) (fun c1 => ?_)
  · skip
    exact j_vret hE hR dX10_put_14 (by first
        | (rw [putS, if_pos (Or.inl c1)]; done)
        | (rw [putS, if_pos (Or.inr c7)]; done)
        | (rw [putS, if_neg (fun q => q.elim c1 c7)]; done))
  · skip
    refine j_iload1 hE dX10_put_4 ?_
    refine j_aload0 hE dX10_put_5 ?_
    refine j_alen hE dX10_put_6 (nI n) hs rfl ?_
    refine j_icmpge hE 14 dX10_put_7 (by decide) (fun c7 => ?_) (fun c7 => ?_)
    · skip
      exact j_vret hE hR dX10_put_14 (by first
          | (rw [putS, if_pos (Or.inl c1)]; done)
          | (rw [putS, if_pos (Or.inr c7)]; done)
          | (rw [putS, if_neg (fun q => q.elim c1 c7)]; done))
    · skip
      refine j_aload0 hE dX10_put_10 ?_
      refine j_iload1 hE dX10_put_11 ?_
      refine j_iload2 hE dX10_put_12 ?_
      refine j_iast hE dX10_put_13 (by first | assumption | rfl) (vp_in_of2 hn c1 c7) ?_
      exact j_vret hE hR dX10_put_14 (by first
          | (rw [putS, if_pos (Or.inl c1)]; done)
          | (rw [putS, if_pos (Or.inr c7)]; done)
          | (rw [putS, if_neg (fun q => q.elim c1 c7)]; done))

