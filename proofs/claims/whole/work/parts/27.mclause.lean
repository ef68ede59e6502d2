def mtnA (S : Sto) (n a : Nat) : Nat := if isFg (cur (S 120) n (skp (S 120) n a)) then dge (S 120) n (skp (S 120) n a) else skp (S 120) n a
theorem mtnA_le {S : Sto} {n a : Nat} (h : a ≤ n) : mtnA S n a ≤ n := by
  unfold mtnA
  split
  · exact dge_le (skp_le h)
  · exact skp_le h
theorem mtnS_o {S : Sto} {n a i : Nat} {lo hi : Int32} (h : i ≠ 114) : mtnS S n a lo hi i = S i := by
  unfold mtnS mtnT
  split
  · split
    · rw [up2_ne _ _ _ h, mtn_o h]
    · rw [mtn_o h]
  · rw [up2_ne _ _ _ h, up2_ne _ _ _ h]
theorem mtnS_k {S : Sto} {n a k : Nat} {lo hi : Int32} (h : k < 14 ∨ 17 < k) : mtnS S n a lo hi 114 k = S 114 k := by
  unfold mtnS mtnT
  split
  · split
    · rw [up2_same, pk_un (by omega), mtn_k (by omega)]
    · rw [mtn_k (by omega)]
  · rw [up2_same, pk_un (by omega), up2_same, pk_un (by omega)]
theorem mtnS_15 {S : Sto} {n a : Nat} {lo hi : Int32} : mtnS S n a lo hi 114 15 = nI (mtnA S n a) := by
  unfold mtnS mtnT mtnA
  split
  · split
    · rw [up2_same, pk_un (by decide), mtn_15]
    · rw [mtn_15]
  · rw [up2_same, pk_un (by decide), up2_same, pk_us]
theorem up114b {S : Sto} {v : Int32} {j k : Nat} (h : k ≠ j) : up2 S 114 j v 114 k = S 114 k := by rw [up2_same, pk_un h]
set_option maxHeartbeats 4000000 in
set_option maxRecDepth 100000 in
theorem c_X11_into (l : Launch) (C : JC) (hC : JInj C) (S : Sto) (n : Nat) (hn : S 114 13 = nI n) (hn240 : n ≤ 240) (a : Nat) (ha : S 114 15 = nI a) (han : a ≤ n) (b nb k : Nat) (hb : jsh b = (1, nb)) (hk : k < nb) (hb0 : nb < 1000) (lo hi : Int32) : Con l C yX11_into cX11_into 6 (some .int) 4 [.ref (C.2.1 114), .ref (C.2.1 b), .int (nI k), .int lo, .int hi] S (some (.int (mtnV S n a lo hi))) (up2 (mtnS S n a lo hi) b k (mtnS S n a lo hi 114 16)) := by
  refine con_of RX11 1 [some (.ref (C.2.1 114)), some (.ref (C.2.1 b)), some (.int (nI k)), some (.int lo), some (.int hi), none] (by decide) rfl hC (Nat.le_of_ble_eq_true rfl) rfl (Nat.le_of_ble_eq_true rfl) (fun E hE hR => ?_)
  refine j_aload0 hE dX11_into_0 ?_
  refine j_iload3 hE dX11_into_1 ?_
  refine j_iload4 hE dX11_into_2 ?_
  refine j_V2i hE mX11_122 (c_X11_takeNumber l C hC _ n hn hn240 a ha han _ _) dX11_into_4 (by first | assumption | rfl) (by decide) (Nat.le_of_ble_eq_true rfl) ?_
  refine j_istore5 hE dX11_into_7 rfl ?_
  refine j_aload1 hE dX11_into_9 ?_
  refine j_iload2 hE dX11_into_10 ?_
  refine j_aload0 hE dX11_into_11 ?_
  refine j_geti hE fX11_119 dX11_into_12 (by first | assumption | rfl) ?_
  refine j_iastN hE dX11_into_15 hb hk (by omega) ?_
  refine j_iload5 hE dX11_into_16 ?_
  exact j_iret hE hR dX11_into_18 (rfl) (rfl)

def mtwA (S : Sto) (n a : Nat) : Sto := up2 (mtnS S n a (nI 2) (nI 5)) 114 18 (mtnS S n a (nI 2) (nI 5) 114 16)
def mtwV (S : Sto) (n a : Nat) : Int32 := if mtnV S n a (nI 2) (nI 5) ≤ 0 then mtnV (mtwA S n a) n (mtnA S n a) (nI 2) (nI 5) else mtnV S n a (nI 2) (nI 5)
def mtwT (S : Sto) (n a : Nat) : Sto := if mtnV S n a (nI 2) (nI 5) ≤ 0 then mtnS (mtwA S n a) n (mtnA S n a) (nI 2) (nI 5) else mtwA S n a
def mtwS (S : Sto) (n a : Nat) : Sto := up2 (mtwT S n a) 114 19 (mtwT S n a 114 16)
theorem mtwA_13 {S : Sto} {n a : Nat} : mtwA S n a 114 13 = S 114 13 := by unfold mtwA; rw [up114b (by decide), mtnS_k (by omega)]
theorem mtwA_15 {S : Sto} {n a : Nat} : mtwA S n a 114 15 = nI (mtnA S n a) := by unfold mtwA; rw [up114b (by decide), mtnS_15]
set_option maxHeartbeats 4000000 in
set_option maxRecDepth 100000 in
theorem c_X11_takeWall (l : Launch) (C : JC) (hC : JInj C) (S : Sto) (n : Nat) (hn : S 114 13 = nI n) (hn240 : n ≤ 240) (a : Nat) (ha : S 114 15 = nI a) (han : a ≤ n)  : Con l C yX11_takeWall cX11_takeWall 2 (some .int) 4 [.ref (C.2.1 114)] S (some (.int (mtwV S n a))) (mtwS S n a) := by
  refine con_of RX11 1 [some (.ref (C.2.1 114)), none] (by decide) rfl hC (Nat.le_of_ble_eq_true rfl) rfl (Nat.le_of_ble_eq_true rfl) (fun E hE hR => ?_)
  refine j_aload0 hE dX11_takeWall_0 ?_
  refine j_iconst hE (nI 2) dX11_takeWall_1 kiconst_2 ?_
  refine j_iconst hE (nI 5) dX11_takeWall_2 kiconst_5 ?_
  refine j_V2i hE mX11_122 (c_X11_takeNumber l C hC _ n hn hn240 a ha han _ _) dX11_takeWall_3 (by first | assumption | rfl) (by decide) (Nat.le_of_ble_eq_true rfl) ?_
  refine j_istore1 hE dX11_takeWall_6 rfl ?_
  refine j_aload0 hE dX11_takeWall_7 ?_
  refine j_aload0 hE dX11_takeWall_8 ?_
  refine j_geti hE fX11_119 dX11_takeWall_9 (by first | assumption | rfl) ?_
  refine j_puti hE pX11_125 dX11_takeWall_12 (by first | assumption | rfl) rfl rfl ?_
  refine j_iload1 hE dX11_takeWall_15 ?_
  refine j_ifle hE 23 dX11_takeWall_16 (by decide) (fun c16 => ?_) (fun c16 => ?_)
  · skip
    refine j_aload0 hE dX11_takeWall_23 ?_
    refine j_iconst hE (nI 2) dX11_takeWall_24 kiconst_2 ?_
    refine j_iconst hE (nI 5) dX11_takeWall_25 kiconst_5 ?_
    refine j_V2i hE mX11_122 (c_X11_takeNumber l C hC _ n (mtwA_13.trans hn) hn240 (mtnA S n a) mtwA_15 (mtnA_le han) _ _) dX11_takeWall_26 (by first | assumption | rfl) (by decide) (Nat.le_of_ble_eq_true rfl) ?_
    refine j_istore1 hE dX11_takeWall_29 rfl ?_
    refine j_aload0 hE dX11_takeWall_30 ?_
    refine j_aload0 hE dX11_takeWall_31 ?_
    refine j_geti hE fX11_119 dX11_takeWall_32 (by first | assumption | rfl) ?_
    refine j_puti hE pX11_128 dX11_takeWall_35 (by first | assumption | rfl) rfl rfl ?_
    refine j_iload1 hE dX11_takeWall_38 ?_
    exact j_iret hE hR dX11_takeWall_39 (by first | (rw [mtwV, if_pos c16]; done) | (rw [mtwV, if_neg c16]; done)) (by rw [mtwS, mtwT]; first | (rw [if_pos c16]; done) | (rw [if_pos c16]; rfl) | (rw [if_neg c16]; done) | (rw [if_neg c16]; rfl))
  · skip
    refine j_iload1 hE dX11_takeWall_19 ?_
    refine j_goto hE 29 dX11_takeWall_20 (by decide) ?_
    refine j_istore1 hE dX11_takeWall_29 rfl ?_
    refine j_aload0 hE dX11_takeWall_30 ?_
    refine j_aload0 hE dX11_takeWall_31 ?_
    refine j_geti hE fX11_119 dX11_takeWall_32 (by first | assumption | rfl) ?_
    refine j_puti hE pX11_128 dX11_takeWall_35 (by first | assumption | rfl) rfl rfl ?_
    refine j_iload1 hE dX11_takeWall_38 ?_
    exact j_iret hE hR dX11_takeWall_39 (by first | (rw [mtwV, if_pos c16]; done) | (rw [mtwV, if_neg c16]; done)) (by rw [mtwS, mtwT]; first | (rw [if_pos c16]; done) | (rw [if_pos c16]; rfl) | (rw [if_neg c16]; done) | (rw [if_neg c16]; rfl))

def mtdW (S : Sto) : Sto := up2 S 114 27 (nI 1)
def mtdS (S : Sto) (n a : Nat) : Sto := up2 (mtnS (mtdW S) n a (nI 0) (nI 2)) 114 28 (mtnS (mtdW S) n a (nI 0) (nI 2) 114 16)
set_option maxHeartbeats 4000000 in
set_option maxRecDepth 100000 in
theorem c_X11_takeWind (l : Launch) (C : JC) (hC : JInj C) (S : Sto) (n : Nat) (hn : S 114 13 = nI n) (hn240 : n ≤ 240) (a : Nat) (ha : S 114 15 = nI a) (han : a ≤ n)  : Con l C yX11_takeWind cX11_takeWind 2 (some .int) 4 [.ref (C.2.1 114)] S (some (.int (mtnV (mtdW S) n a (nI 0) (nI 2)))) (mtdS S n a) := by
  refine con_of RX11 1 [some (.ref (C.2.1 114)), none] (by decide) rfl hC (Nat.le_of_ble_eq_true rfl) rfl (Nat.le_of_ble_eq_true rfl) (fun E hE hR => ?_)
  refine j_aload0 hE dX11_takeWind_0 ?_
  refine j_iconst hE (nI 1) dX11_takeWind_1 kiconst_1 ?_
  refine j_puti hE pX11_155 dX11_takeWind_2 (by first | assumption | rfl) rfl rfl ?_
  refine j_aload0 hE dX11_takeWind_5 ?_
  refine j_iconst hE (nI 0) dX11_takeWind_6 kiconst_0 ?_
  refine j_iconst hE (nI 2) dX11_takeWind_7 kiconst_2 ?_
  refine j_V2i hE mX11_122 (c_X11_takeNumber l C hC (mtdW S) n (by rw [mtdW, up114b (by decide)]; exact hn) hn240 a (by rw [mtdW, up114b (by decide)]; exact ha) han _ _) dX11_takeWind_8 (by first | assumption | rfl) (by decide) (Nat.le_of_ble_eq_true rfl) ?_
  refine j_istore1 hE dX11_takeWind_11 rfl ?_
  refine j_aload0 hE dX11_takeWind_12 ?_
  refine j_aload0 hE dX11_takeWind_13 ?_
  refine j_geti hE fX11_119 dX11_takeWind_14 (by first | assumption | rfl) ?_
  refine j_puti hE pX11_159 dX11_takeWind_17 (by first | assumption | rfl) rfl rfl ?_
  refine j_iload1 hE dX11_takeWind_20 ?_
  exact j_iret hE hR dX11_takeWind_21 (rfl) (rfl)

def mtlW (S : Sto) (k : Nat) : Sto := up2 S 114 20 (nI (k + 1))
def mtlH (S : Sto) : Int32 := S 114 18 * S 114 19 - nI 1
def mtlS (S : Sto) (n a k : Nat) : Sto := up2 (mtnS (mtlW S k) n a (nI 0) (mtlH S)) 121 k (mtnS (mtlW S k) n a (nI 0) (mtlH S) 114 16)
set_option maxHeartbeats 4000000 in
set_option maxRecDepth 100000 in
theorem c_X11_takeLeak (l : Launch) (C : JC) (hC : JInj C) (S : Sto) (n : Nat) (hn : S 114 13 = nI n) (hn240 : n ≤ 240) (a : Nat) (ha : S 114 15 = nI a) (han : a ≤ n) (k : Nat) (hk : S 114 20 = nI k) (hk4 : k < 4) : Con l C yX11_takeLeak cX11_takeLeak 1 (some .int) 5 [.ref (C.2.1 114)] S (some (.int (mtnV (mtlW S k) n a (nI 0) (mtlH S)))) (mtlS S n a k) := by
  refine con_of RX11 0 [some (.ref (C.2.1 114))] (by decide) rfl hC (Nat.le_of_ble_eq_true rfl) rfl (Nat.le_of_ble_eq_true rfl) (fun E hE hR => ?_)
  refine j_aload0 hE dX11_takeLeak_0 ?_
  refine j_dup hE dX11_takeLeak_1 rfl ?_
  refine j_geti hE fX11_131 dX11_takeLeak_2 (by first | assumption | rfl) ?_
  refine j_iconst hE (nI 1) dX11_takeLeak_5 kiconst_1 ?_
  refine j_iadd hE dX11_takeLeak_6 ?_
  refine j_top (y := nI (k + 1)) (by rw [hk, nI_add]) ?_
  refine j_puti hE pX11_131 dX11_takeLeak_7 (by first | assumption | rfl) rfl rfl ?_
  refine j_aload0 hE dX11_takeLeak_10 ?_
  refine j_aload0 hE dX11_takeLeak_11 ?_
  refine j_getr hE fX11_32 dX11_takeLeak_12 (j := 121) (by first | assumption | rfl) (rfl) ?_
  refine j_aload0 hE dX11_takeLeak_15 ?_
  refine j_geti hE fX11_131 dX11_takeLeak_16 (by first | assumption | rfl) ?_
  refine j_iconst hE (nI 1) dX11_takeLeak_19 kiconst_1 ?_
  refine j_isub hE dX11_takeLeak_20 ?_
  refine j_top (y := nI k) (by rw [up2_same, pk_us]; exact nI_pred k) ?_
  refine j_iconst hE (nI 0) dX11_takeLeak_21 kiconst_0 ?_
  refine j_aload0 hE dX11_takeLeak_22 ?_
  refine j_V0i hE mX11_134 (c_X11_readCells l C hC _) dX11_takeLeak_23 (by first | assumption | rfl) (by decide) (Nat.le_of_ble_eq_true rfl) ?_
  refine j_iconst hE (nI 1) dX11_takeLeak_26 kiconst_1 ?_
  refine j_isub hE dX11_takeLeak_27 ?_
  refine j_top (y := mtlH S) (by rw [up114b (by decide), up114b (by decide)]; rfl) ?_
  refine j_V4i hE mX11_137 (c_X11_into l C hC (mtlW S k) n (by rw [mtlW, up114b (by decide)]; exact hn) hn240 a (by rw [mtlW, up114b (by decide)]; exact ha) han 121 4 k rfl hk4 (by decide) _ _) dX11_takeLeak_28 (by first | assumption | rfl) (by decide) (Nat.le_of_ble_eq_true rfl) ?_
  exact j_iret hE hR dX11_takeLeak_31 (rfl) (rfl)

abbrev mtIs (S : Sto) (a b : Int32) (c : Nat) : Prop := (S 122 c = a ∧ S 123 c = b) ∨ (S 122 c = b ∧ S 123 c = a)
def mtdB (S : Sto) (a b : Int32) : Nat → Bool
  | 0 => false
  | n + 1 => mtdB S a b n || decide (mtIs S a b n)
theorem zb_0 {b : Bool} : (if b = true then nI 1 else nI 0) = 0 ↔ b = false := by cases b <;> decide
set_option maxHeartbeats 4000000 in
set_option maxRecDepth 100000 in
theorem c_X11_isTold (l : Launch) (C : JC) (hC : JInj C) (S : Sto) (nc : Nat) (hnc : S 114 22 = nI nc) (hcl : nc ≤ 6) (a b : Int32) : Con l C yX11_isTold cX11_isTold 5 (some .boolean) 1 [.ref (C.2.1 114), .int a, .int b] S (some (.int (if mtdB S a b nc = true then nI 1 else nI 0))) (S) := by
  refine con_of RX11 2 [some (.ref (C.2.1 114)), some (.int a), some (.int b), none, none] (by decide) rfl hC (Nat.le_of_ble_eq_true rfl) rfl (Nat.le_of_ble_eq_true rfl) (fun E hE hR => ?_)
  refine j_iconst hE (nI 0) dX11_isTold_0 kiconst_0 ?_
  refine j_istore3 hE dX11_isTold_1 rfl ?_
  refine j_iconst hE (nI 0) dX11_isTold_2 kiconst_0 ?_
  refine j_istore4 hE dX11_isTold_3 rfl ?_
  have L5 : ∀ (fu : Nat) (i : Nat), nc - i < fu → (i ≤ nc) → J C E S 5 [some (.ref (C.2.1 114)), some (.int a), some (.int b), some (.int (if mtdB S a b i = true then nI 1 else nI 0)), some (.int (nI i))] [] := by
    intro fu
    induction fu with
    | zero => intro i hm; omega
    | succ fu ih =>
      intro i hm hi
      refine j_iload4 hE dX11_isTold_5 ?_
      refine j_aload0 hE dX11_isTold_7 ?_
      refine j_geti hE fX11_141 dX11_isTold_8 (by first | assumption | rfl) ?_
      refine j_icmpge hE 74 dX11_isTold_11 (by decide) (fun c11 => ?_) (fun c11 => ?_)
      · skip
        rw [hnc] at c11
        have c11 := (nI_leI (by omega) (by omega)).mp c11
        have hii : i = nc := by omega
        subst hii
        refine j_iload3 hE dX11_isTold_74 ?_
        exact j_zret hE hR dX11_isTold_75 (rfl) (rfl) nar_c
      · skip
        rw [hnc] at c11
        have c11 : i < nc := Nat.lt_of_not_le (fun q => c11 (nI_le q (by omega)))
        refine j_iload3 hE dX11_isTold_14 ?_
        refine j_ifne hE 62 dX11_isTold_15 (by decide) (fun c15 => ?_) (fun c15 => ?_)
        · skip
          have c15 : mtdB S a b i = true := by
            cases hz : mtdB S a b i with
            | true => rfl
            | false => exact absurd (zb_0.mpr hz) c15
          refine j_iconst hE (nI 1) dX11_isTold_62 kiconst_1 ?_
          refine j_goto hE 67 dX11_isTold_63 (by decide) ?_
          refine j_istore3 hE dX11_isTold_67 rfl ?_
          refine j_iinc4 hE (nI (i + 1)) dX11_isTold_68 (nI_inc _) rfl ?_
          refine j_goto hE 5 dX11_isTold_71 (by decide) ?_
          exact j_cast rfl (by rw [mtdB]; first | (rw [c15, Bool.true_or]; done) | (rw [c15, Bool.true_or]; rfl) | (rw [show decide (mtIs S a b i) = true from decide_eq_true (Or.inl ⟨c26, c37⟩), Bool.or_true]; first | done | rfl) | (rw [show decide (mtIs S a b i) = true from decide_eq_true (Or.inr ⟨c48, c59⟩), Bool.or_true]; first | done | rfl) | (rw [c15, show decide (mtIs S a b i) = false from decide_eq_false (fun z => z.elim (fun y => c26 y.1) (fun y => c48 y.1))]; first | done | rfl) | (rw [c15, show decide (mtIs S a b i) = false from decide_eq_false (fun z => z.elim (fun y => c26 y.1) (fun y => c59 y.2))]; first | done | rfl) | (rw [c15, show decide (mtIs S a b i) = false from decide_eq_false (fun z => z.elim (fun y => c37 y.2) (fun y => c48 y.1))]; first | done | rfl) | (rw [c15, show decide (mtIs S a b i) = false from decide_eq_false (fun z => z.elim (fun y => c37 y.2) (fun y => c59 y.2))]; first | done | rfl)) (ih (i + 1) (by omega) (by omega))
        · skip
          have c15 : mtdB S a b i = false := zb_0.mp c15
          refine j_aload0 hE dX11_isTold_18 ?_
          refine j_getr hE fX11_35 dX11_isTold_19 (j := 122) (by first | assumption | rfl) (rfl) ?_
          refine j_iload4 hE dX11_isTold_22 ?_
          refine j_ialdN hE dX11_isTold_24 (by first | assumption | rfl) (by omega) (by decide) ?_
          refine j_iload1 hE dX11_isTold_25 ?_
          refine j_icmpne hE 40 dX11_isTold_26 (by decide) (fun c26 => ?_) (fun c26 => ?_)
          · skip
            refine j_aload0 hE dX11_isTold_40 ?_
            refine j_getr hE fX11_35 dX11_isTold_41 (j := 122) (by first | assumption | rfl) (rfl) ?_
            refine j_iload4 hE dX11_isTold_44 ?_
            refine j_ialdN hE dX11_isTold_46 (by first | assumption | rfl) (by omega) (by decide) ?_
            refine j_iload2 hE dX11_isTold_47 ?_
            refine j_icmpne hE 66 dX11_isTold_48 (by decide) (fun c48 => ?_) (fun c48 => ?_)
            · skip
              refine j_iconst hE (nI 0) dX11_isTold_66 kiconst_0 ?_
              refine j_istore3 hE dX11_isTold_67 rfl ?_
              refine j_iinc4 hE (nI (i + 1)) dX11_isTold_68 (nI_inc _) rfl ?_
              refine j_goto hE 5 dX11_isTold_71 (by decide) ?_
              exact j_cast rfl (by rw [mtdB]; first | (rw [c15, Bool.true_or]; done) | (rw [c15, Bool.true_or]; rfl) | (rw [show decide (mtIs S a b i) = true from decide_eq_true (Or.inl ⟨c26, c37⟩), Bool.or_true]; first | done | rfl) | (rw [show decide (mtIs S a b i) = true from decide_eq_true (Or.inr ⟨c48, c59⟩), Bool.or_true]; first | done | rfl) | (rw [c15, show decide (mtIs S a b i) = false from decide_eq_false (fun z => z.elim (fun y => c26 y.1) (fun y => c48 y.1))]; first | done | rfl) | (rw [c15, show decide (mtIs S a b i) = false from decide_eq_false (fun z => z.elim (fun y => c26 y.1) (fun y => c59 y.2))]; first | done | rfl) | (rw [c15, show decide (mtIs S a b i) = false from decide_eq_false (fun z => z.elim (fun y => c37 y.2) (fun y => c48 y.1))]; first | done | rfl) | (rw [c15, show decide (mtIs S a b i) = false from decide_eq_false (fun z => z.elim (fun y => c37 y.2) (fun y => c59 y.2))]; first | done | rfl)) (ih (i + 1) (by omega) (by omega))
            · skip
              refine j_aload0 hE dX11_isTold_51 ?_
              refine j_getr hE fX11_38 dX11_isTold_52 (j := 123) (by first | assumption | rfl) (rfl) ?_
              refine j_iload4 hE dX11_isTold_55 ?_
              refine j_ialdN hE dX11_isTold_57 (by first | assumption | rfl) (by omega) (by decide) ?_
              refine j_iload1 hE dX11_isTold_58 ?_
              refine j_icmpne hE 66 dX11_isTold_59 (by decide) (fun c59 => ?_) (fun c59 => ?_)
              · skip
                refine j_iconst hE (nI 0) dX11_isTold_66 kiconst_0 ?_
                refine j_istore3 hE dX11_isTold_67 rfl ?_
                refine j_iinc4 hE (nI (i + 1)) dX11_isTold_68 (nI_inc _) rfl ?_
                refine j_goto hE 5 dX11_isTold_71 (by decide) ?_
                exact j_cast rfl (by rw [mtdB]; first | (rw [c15, Bool.true_or]; done) | (rw [c15, Bool.true_or]; rfl) | (rw [show decide (mtIs S a b i) = true from decide_eq_true (Or.inl ⟨c26, c37⟩), Bool.or_true]; first | done | rfl) | (rw [show decide (mtIs S a b i) = true from decide_eq_true (Or.inr ⟨c48, c59⟩), Bool.or_true]; first | done | rfl) | (rw [c15, show decide (mtIs S a b i) = false from decide_eq_false (fun z => z.elim (fun y => c26 y.1) (fun y => c48 y.1))]; first | done | rfl) | (rw [c15, show decide (mtIs S a b i) = false from decide_eq_false (fun z => z.elim (fun y => c26 y.1) (fun y => c59 y.2))]; first | done | rfl) | (rw [c15, show decide (mtIs S a b i) = false from decide_eq_false (fun z => z.elim (fun y => c37 y.2) (fun y => c48 y.1))]; first | done | rfl) | (rw [c15, show decide (mtIs S a b i) = false from decide_eq_false (fun z => z.elim (fun y => c37 y.2) (fun y => c59 y.2))]; first | done | rfl)) (ih (i + 1) (by omega) (by omega))
              · skip
                refine j_iconst hE (nI 1) dX11_isTold_62 kiconst_1 ?_
                refine j_goto hE 67 dX11_isTold_63 (by decide) ?_
                refine j_istore3 hE dX11_isTold_67 rfl ?_
                refine j_iinc4 hE (nI (i + 1)) dX11_isTold_68 (nI_inc _) rfl ?_
                refine j_goto hE 5 dX11_isTold_71 (by decide) ?_
                exact j_cast rfl (by rw [mtdB]; first | (rw [c15, Bool.true_or]; done) | (rw [c15, Bool.true_or]; rfl) | (rw [show decide (mtIs S a b i) = true from decide_eq_true (Or.inl ⟨c26, c37⟩), Bool.or_true]; first | done | rfl) | (rw [show decide (mtIs S a b i) = true from decide_eq_true (Or.inr ⟨c48, c59⟩), Bool.or_true]; first | done | rfl) | (rw [c15, show decide (mtIs S a b i) = false from decide_eq_false (fun z => z.elim (fun y => c26 y.1) (fun y => c48 y.1))]; first | done | rfl) | (rw [c15, show decide (mtIs S a b i) = false from decide_eq_false (fun z => z.elim (fun y => c26 y.1) (fun y => c59 y.2))]; first | done | rfl) | (rw [c15, show decide (mtIs S a b i) = false from decide_eq_false (fun z => z.elim (fun y => c37 y.2) (fun y => c48 y.1))]; first | done | rfl) | (rw [c15, show decide (mtIs S a b i) = false from decide_eq_false (fun z => z.elim (fun y => c37 y.2) (fun y => c59 y.2))]; first | done | rfl)) (ih (i + 1) (by omega) (by omega))
          · skip
            refine j_aload0 hE dX11_isTold_29 ?_
            refine j_getr hE fX11_38 dX11_isTold_30 (j := 123) (by first | assumption | rfl) (rfl) ?_
            refine j_iload4 hE dX11_isTold_33 ?_
            refine j_ialdN hE dX11_isTold_35 (by first | assumption | rfl) (by omega) (by decide) ?_
            refine j_iload2 hE dX11_isTold_36 ?_
            refine j_icmpeq hE 62 dX11_isTold_37 (by decide) (fun c37 => ?_) (fun c37 => ?_)
            · skip
              refine j_iconst hE (nI 1) dX11_isTold_62 kiconst_1 ?_
              refine j_goto hE 67 dX11_isTold_63 (by decide) ?_
              refine j_istore3 hE dX11_isTold_67 rfl ?_
              refine j_iinc4 hE (nI (i + 1)) dX11_isTold_68 (nI_inc _) rfl ?_
              refine j_goto hE 5 dX11_isTold_71 (by decide) ?_
              exact j_cast rfl (by rw [mtdB]; first | (rw [c15, Bool.true_or]; done) | (rw [c15, Bool.true_or]; rfl) | (rw [show decide (mtIs S a b i) = true from decide_eq_true (Or.inl ⟨c26, c37⟩), Bool.or_true]; first | done | rfl) | (rw [show decide (mtIs S a b i) = true from decide_eq_true (Or.inr ⟨c48, c59⟩), Bool.or_true]; first | done | rfl) | (rw [c15, show decide (mtIs S a b i) = false from decide_eq_false (fun z => z.elim (fun y => c26 y.1) (fun y => c48 y.1))]; first | done | rfl) | (rw [c15, show decide (mtIs S a b i) = false from decide_eq_false (fun z => z.elim (fun y => c26 y.1) (fun y => c59 y.2))]; first | done | rfl) | (rw [c15, show decide (mtIs S a b i) = false from decide_eq_false (fun z => z.elim (fun y => c37 y.2) (fun y => c48 y.1))]; first | done | rfl) | (rw [c15, show decide (mtIs S a b i) = false from decide_eq_false (fun z => z.elim (fun y => c37 y.2) (fun y => c59 y.2))]; first | done | rfl)) (ih (i + 1) (by omega) (by omega))
            · skip
              refine j_aload0 hE dX11_isTold_40 ?_
              refine j_getr hE fX11_35 dX11_isTold_41 (j := 122) (by first | assumption | rfl) (rfl) ?_
              refine j_iload4 hE dX11_isTold_44 ?_
              refine j_ialdN hE dX11_isTold_46 (by first | assumption | rfl) (by omega) (by decide) ?_
              refine j_iload2 hE dX11_isTold_47 ?_
              refine j_icmpne hE 66 dX11_isTold_48 (by decide) (fun c48 => ?_) (fun c48 => ?_)
              · skip
                refine j_iconst hE (nI 0) dX11_isTold_66 kiconst_0 ?_
                refine j_istore3 hE dX11_isTold_67 rfl ?_
                refine j_iinc4 hE (nI (i + 1)) dX11_isTold_68 (nI_inc _) rfl ?_
                refine j_goto hE 5 dX11_isTold_71 (by decide) ?_
                exact j_cast rfl (by rw [mtdB]; first | (rw [c15, Bool.true_or]; done) | (rw [c15, Bool.true_or]; rfl) | (rw [show decide (mtIs S a b i) = true from decide_eq_true (Or.inl ⟨c26, c37⟩), Bool.or_true]; first | done | rfl) | (rw [show decide (mtIs S a b i) = true from decide_eq_true (Or.inr ⟨c48, c59⟩), Bool.or_true]; first | done | rfl) | (rw [c15, show decide (mtIs S a b i) = false from decide_eq_false (fun z => z.elim (fun y => c26 y.1) (fun y => c48 y.1))]; first | done | rfl) | (rw [c15, show decide (mtIs S a b i) = false from decide_eq_false (fun z => z.elim (fun y => c26 y.1) (fun y => c59 y.2))]; first | done | rfl) | (rw [c15, show decide (mtIs S a b i) = false from decide_eq_false (fun z => z.elim (fun y => c37 y.2) (fun y => c48 y.1))]; first | done | rfl) | (rw [c15, show decide (mtIs S a b i) = false from decide_eq_false (fun z => z.elim (fun y => c37 y.2) (fun y => c59 y.2))]; first | done | rfl)) (ih (i + 1) (by omega) (by omega))
              · skip
                refine j_aload0 hE dX11_isTold_51 ?_
                refine j_getr hE fX11_38 dX11_isTold_52 (j := 123) (by first | assumption | rfl) (rfl) ?_
                refine j_iload4 hE dX11_isTold_55 ?_
                refine j_ialdN hE dX11_isTold_57 (by first | assumption | rfl) (by omega) (by decide) ?_
                refine j_iload1 hE dX11_isTold_58 ?_
                refine j_icmpne hE 66 dX11_isTold_59 (by decide) (fun c59 => ?_) (fun c59 => ?_)
                · skip
                  refine j_iconst hE (nI 0) dX11_isTold_66 kiconst_0 ?_
                  refine j_istore3 hE dX11_isTold_67 rfl ?_
                  refine j_iinc4 hE (nI (i + 1)) dX11_isTold_68 (nI_inc _) rfl ?_
                  refine j_goto hE 5 dX11_isTold_71 (by decide) ?_
                  exact j_cast rfl (by rw [mtdB]; first | (rw [c15, Bool.true_or]; done) | (rw [c15, Bool.true_or]; rfl) | (rw [show decide (mtIs S a b i) = true from decide_eq_true (Or.inl ⟨c26, c37⟩), Bool.or_true]; first | done | rfl) | (rw [show decide (mtIs S a b i) = true from decide_eq_true (Or.inr ⟨c48, c59⟩), Bool.or_true]; first | done | rfl) | (rw [c15, show decide (mtIs S a b i) = false from decide_eq_false (fun z => z.elim (fun y => c26 y.1) (fun y => c48 y.1))]; first | done | rfl) | (rw [c15, show decide (mtIs S a b i) = false from decide_eq_false (fun z => z.elim (fun y => c26 y.1) (fun y => c59 y.2))]; first | done | rfl) | (rw [c15, show decide (mtIs S a b i) = false from decide_eq_false (fun z => z.elim (fun y => c37 y.2) (fun y => c48 y.1))]; first | done | rfl) | (rw [c15, show decide (mtIs S a b i) = false from decide_eq_false (fun z => z.elim (fun y => c37 y.2) (fun y => c59 y.2))]; first | done | rfl)) (ih (i + 1) (by omega) (by omega))
                · skip
                  refine j_iconst hE (nI 1) dX11_isTold_62 kiconst_1 ?_
                  refine j_goto hE 67 dX11_isTold_63 (by decide) ?_
                  refine j_istore3 hE dX11_isTold_67 rfl ?_
                  refine j_iinc4 hE (nI (i + 1)) dX11_isTold_68 (nI_inc _) rfl ?_
                  refine j_goto hE 5 dX11_isTold_71 (by decide) ?_
                  exact j_cast rfl (by rw [mtdB]; first | (rw [c15, Bool.true_or]; done) | (rw [c15, Bool.true_or]; rfl) | (rw [show decide (mtIs S a b i) = true from decide_eq_true (Or.inl ⟨c26, c37⟩), Bool.or_true]; first | done | rfl) | (rw [show decide (mtIs S a b i) = true from decide_eq_true (Or.inr ⟨c48, c59⟩), Bool.or_true]; first | done | rfl) | (rw [c15, show decide (mtIs S a b i) = false from decide_eq_false (fun z => z.elim (fun y => c26 y.1) (fun y => c48 y.1))]; first | done | rfl) | (rw [c15, show decide (mtIs S a b i) = false from decide_eq_false (fun z => z.elim (fun y => c26 y.1) (fun y => c59 y.2))]; first | done | rfl) | (rw [c15, show decide (mtIs S a b i) = false from decide_eq_false (fun z => z.elim (fun y => c37 y.2) (fun y => c48 y.1))]; first | done | rfl) | (rw [c15, show decide (mtIs S a b i) = false from decide_eq_false (fun z => z.elim (fun y => c37 y.2) (fun y => c59 y.2))]; first | done | rfl)) (ih (i + 1) (by omega) (by omega))
  exact L5 (nc + 1) 0 (by omega) (by omega)

def mfullV (S : Sto) (k : Int32) : Int32 := if k = nI 0 then (if S 114 18 ≤ 0 then nI 0 else nI 1) else if k = nI 1 then (if S 114 20 = nI 4 then nI 1 else nI 0) else if k = nI 2 then (if S 114 22 = nI 6 then nI 1 else nI 0) else if k = nI 3 then (if S 114 25 = nI 5 then nI 1 else nI 0) else S 114 27
theorem mfull_z {S : Sto} {k : Int32} (hw : S 114 27 = nI 0 ∨ S 114 27 = nI 1) : mfullV S k = nI 0 ∨ mfullV S k = nI 1 := by
  unfold mfullV
  split
  · split
    · exact Or.inl rfl
    · exact Or.inr rfl
  · split
    · split
      · exact Or.inr rfl
      · exact Or.inl rfl
    · split
      · split
        · exact Or.inr rfl
        · exact Or.inl rfl
      · split
        · split
          · exact Or.inr rfl
          · exact Or.inl rfl
        · exact hw
theorem mfull_nar {S : Sto} {k : Int32} (hw : S 114 27 = nI 0 ∨ S 114 27 = nI 1) : narrow .boolean (.int (mfullV S k)) = .int (mfullV S k) := by
  rcases mfull_z (k := k) hw with e | e <;> rw [e] <;> rfl
theorem sw4_n {x : Int32} (h : x.toInt < 0 ∨ 3 < x.toInt) : ¬ x = nI 0 ∧ ¬ x = nI 1 ∧ ¬ x = nI 2 ∧ ¬ x = nI 3 := by
  refine ⟨fun q => ?_, fun q => ?_, fun q => ?_, fun q => ?_⟩ <;> subst q <;> exact absurd h (by decide)
theorem n10 : ¬ nI 1 = nI 0 := by decide
theorem n20 : ¬ nI 2 = nI 0 := by decide
theorem n21 : ¬ nI 2 = nI 1 := by decide
theorem n30 : ¬ nI 3 = nI 0 := by decide
theorem n31 : ¬ nI 3 = nI 1 := by decide
theorem n32 : ¬ nI 3 = nI 2 := by decide
set_option maxHeartbeats 4000000 in
set_option maxRecDepth 100000 in
theorem c_X11_isFull (l : Launch) (C : JC) (hC : JInj C) (S : Sto) (k : Int32) (hw : S 114 27 = nI 0 ∨ S 114 27 = nI 1) : Con l C yX11_isFull cX11_isFull 2 (some .boolean) 1 [.ref (C.2.1 114), .int k] S (some (.int (mfullV S k))) (S) := by
  refine con_of RX11 0 [some (.ref (C.2.1 114)), some (.int k)] (by decide) rfl hC (Nat.le_of_ble_eq_true rfl) rfl (Nat.le_of_ble_eq_true rfl) (fun E hE hR => ?_)
  refine j_iload1 hE dX11_isFull_0 ?_
  rcases sw_4 (k) with cs | cs | cs | cs | cs
  · refine j_tabC hE 32 0 dX11_isFull_1 cs (by decide) (by decide) rfl (by decide) ?_
    subst cs
    refine j_aload0 hE dX11_isFull_32 ?_
    refine j_geti hE fX11_125 dX11_isFull_33 (by first | assumption | rfl) ?_
    refine j_ifle hE 43 dX11_isFull_36 (by decide) (fun c36 => ?_) (fun c36 => ?_)
    · skip
      refine j_iconst hE (nI 0) dX11_isFull_43 kiconst_0 ?_
      exact j_zret hE hR dX11_isFull_44 (by first | (rw [mfullV, if_pos rfl, if_pos c36]; done) | (rw [mfullV, if_pos rfl, if_neg c36]; done)) (rfl) (mfull_nar hw)
    · skip
      refine j_iconst hE (nI 1) dX11_isFull_39 kiconst_1 ?_
      refine j_goto hE 44 dX11_isFull_40 (by decide) ?_
      exact j_zret hE hR dX11_isFull_44 (by first | (rw [mfullV, if_pos rfl, if_pos c36]; done) | (rw [mfullV, if_pos rfl, if_neg c36]; done)) (rfl) (mfull_nar hw)
  · refine j_tabC hE 45 1 dX11_isFull_1 cs (by decide) (by decide) rfl (by decide) ?_
    subst cs
    refine j_aload0 hE dX11_isFull_45 ?_
    refine j_geti hE fX11_131 dX11_isFull_46 (by first | assumption | rfl) ?_
    refine j_iconst hE (nI 4) dX11_isFull_49 kiconst_4 ?_
    refine j_icmpne hE 57 dX11_isFull_50 (by decide) (fun c50 => ?_) (fun c50 => ?_)
    · skip
      refine j_iconst hE (nI 0) dX11_isFull_57 kiconst_0 ?_
      exact j_zret hE hR dX11_isFull_58 (by first | (rw [mfullV, if_neg n10, if_pos rfl, if_pos c50]; done) | (rw [mfullV, if_neg n10, if_pos rfl, if_neg c50]; done)) (rfl) (mfull_nar hw)
    · skip
      refine j_iconst hE (nI 1) dX11_isFull_53 kiconst_1 ?_
      refine j_goto hE 58 dX11_isFull_54 (by decide) ?_
      exact j_zret hE hR dX11_isFull_58 (by first | (rw [mfullV, if_neg n10, if_pos rfl, if_pos c50]; done) | (rw [mfullV, if_neg n10, if_pos rfl, if_neg c50]; done)) (rfl) (mfull_nar hw)
  · refine j_tabC hE 59 2 dX11_isFull_1 cs (by decide) (by decide) rfl (by decide) ?_
    subst cs
    refine j_aload0 hE dX11_isFull_59 ?_
    refine j_geti hE fX11_141 dX11_isFull_60 (by first | assumption | rfl) ?_
    refine j_bipush hE (nI 6) dX11_isFull_63 kbipush_6 ?_
    refine j_icmpne hE 72 dX11_isFull_65 (by decide) (fun c65 => ?_) (fun c65 => ?_)
    · skip
      refine j_iconst hE (nI 0) dX11_isFull_72 kiconst_0 ?_
      exact j_zret hE hR dX11_isFull_73 (by first | (rw [mfullV, if_neg n20, if_neg n21, if_pos rfl, if_pos c65]; done) | (rw [mfullV, if_neg n20, if_neg n21, if_pos rfl, if_neg c65]; done)) (rfl) (mfull_nar hw)
    · skip
      refine j_iconst hE (nI 1) dX11_isFull_68 kiconst_1 ?_
      refine j_goto hE 73 dX11_isFull_69 (by decide) ?_
      exact j_zret hE hR dX11_isFull_73 (by first | (rw [mfullV, if_neg n20, if_neg n21, if_pos rfl, if_pos c65]; done) | (rw [mfullV, if_neg n20, if_neg n21, if_pos rfl, if_neg c65]; done)) (rfl) (mfull_nar hw)
  · refine j_tabC hE 74 3 dX11_isFull_1 cs (by decide) (by decide) rfl (by decide) ?_
    subst cs
    refine j_aload0 hE dX11_isFull_74 ?_
    refine j_geti hE fX11_152 dX11_isFull_75 (by first | assumption | rfl) ?_
    refine j_iconst hE (nI 5) dX11_isFull_78 kiconst_5 ?_
    refine j_icmpne hE 86 dX11_isFull_79 (by decide) (fun c79 => ?_) (fun c79 => ?_)
    · skip
      refine j_iconst hE (nI 0) dX11_isFull_86 kiconst_0 ?_
      exact j_zret hE hR dX11_isFull_87 (by first | (rw [mfullV, if_neg n30, if_neg n31, if_neg n32, if_pos rfl, if_pos c79]; done) | (rw [mfullV, if_neg n30, if_neg n31, if_neg n32, if_pos rfl, if_neg c79]; done)) (rfl) (mfull_nar hw)
    · skip
      refine j_iconst hE (nI 1) dX11_isFull_82 kiconst_1 ?_
      refine j_goto hE 87 dX11_isFull_83 (by decide) ?_
      exact j_zret hE hR dX11_isFull_87 (by first | (rw [mfullV, if_neg n30, if_neg n31, if_neg n32, if_pos rfl, if_pos c79]; done) | (rw [mfullV, if_neg n30, if_neg n31, if_neg n32, if_pos rfl, if_neg c79]; done)) (rfl) (mfull_nar hw)
  · refine j_tabOut hE 88 dX11_isFull_1 (sw_out cs) (by decide) ?_
    refine j_aload0 hE dX11_isFull_88 ?_
    refine j_geti hE fX11_155 dX11_isFull_89 (by first | assumption | rfl) ?_
    exact j_zret hE hR dX11_isFull_92 (by rw [mfullV, if_neg (sw4_n cs).1, if_neg (sw4_n cs).2.1, if_neg (sw4_n cs).2.2.1, if_neg (sw4_n cs).2.2.2]) (rfl) (mfull_nar hw)

def mreadS (S : Sto) : Sto := up2 (up2 (up2 (up2 (up2 (up2 S 114 0 (S 114 18)) 114 1 (S 114 19)) 114 2 (S 114 20)) 114 4 (S 114 22)) 114 7 (S 114 25)) 114 9 (S 114 28)
def mreadC (S : Sto) (nl nc nf : Nat) : Sto := upA (upA (upA (upA S 115 (cpN nl (S 121) (S 115))) 116 (cpN nc (S 122) (S 116))) 117 (cpN nc (S 123) (S 117))) 118 (cpN nf (S 124) (S 118))
def mreadN (S : Sto) (nl : Nat) : Sto := upA S 119 (putW (cpN 34 (fun _ => nI 0) (S 119)) (S 115) 25 nl)
def mtrS (S : Sto) (nl nc nf : Nat) : Sto := let R := mreadN (mreadC (mreadS S) nl nc nf) nl; up2 R 119 29 (R 114 9)
theorem mreadC_o {S : Sto} {nl nc nf i : Nat} (h : i < 115 ∨ 118 < i) : mreadC S nl nc nf i = S i := by
  unfold mreadC
  rw [upA_ne _ _ (by omega), upA_ne _ _ (by omega), upA_ne _ _ (by omega), upA_ne _ _ (by omega)]
set_option maxHeartbeats 4000000 in
set_option maxRecDepth 100000 in
theorem c_X11_takeRead (l : Launch) (C : JC) (hC : JInj C) (S : Sto) (nl : Nat) (hnl : S 114 20 = nI nl) (hll : nl ≤ 4) (nc : Nat) (hnc : S 114 22 = nI nc) (hcl : nc ≤ 6) (nf : Nat) (hnf : S 114 25 = nI nf) (hfl : nf ≤ 5) : Con l C yX11_takeRead cX11_takeRead 2 none 2 [.ref (C.2.1 114)] S none (mtrS S nl nc nf) := by
  have e2 : mreadS S 114 2 = nI nl := by unfold mreadS; rw [up114b (by decide), up114b (by decide), up114b (by decide), up2_same, pk_us]; exact hnl
  have e4 : mreadS S 114 4 = nI nc := by unfold mreadS; rw [up114b (by decide), up114b (by decide), up2_same, pk_us]; exact hnc
  have e7 : mreadS S 114 7 = nI nf := by unfold mreadS; rw [up114b (by decide), up2_same, pk_us]; exact hnf
  refine con_of RX11 1 [some (.ref (C.2.1 114)), none] (by decide) rfl hC (Nat.le_of_ble_eq_true rfl) rfl (Nat.le_of_ble_eq_true rfl) (fun E hE hR => ?_)
  refine j_aload0 hE dX11_takeRead_0 ?_
  refine j_aload0 hE dX11_takeRead_1 ?_
  refine j_geti hE fX11_125 dX11_takeRead_2 (by first | assumption | rfl) ?_
  refine j_puti hE pX11_72 dX11_takeRead_5 (by first | assumption | rfl) rfl rfl ?_
  refine j_aload0 hE dX11_takeRead_8 ?_
  refine j_aload0 hE dX11_takeRead_9 ?_
  refine j_geti hE fX11_128 dX11_takeRead_10 (by first | assumption | rfl) ?_
  refine j_puti hE pX11_75 dX11_takeRead_13 (by first | assumption | rfl) rfl rfl ?_
  refine j_aload0 hE dX11_takeRead_16 ?_
  refine j_aload0 hE dX11_takeRead_17 ?_
  refine j_geti hE fX11_131 dX11_takeRead_18 (by first | assumption | rfl) ?_
  refine j_puti hE pX11_86 dX11_takeRead_21 (by first | assumption | rfl) rfl rfl ?_
  refine j_aload0 hE dX11_takeRead_24 ?_
  refine j_aload0 hE dX11_takeRead_25 ?_
  refine j_geti hE fX11_141 dX11_takeRead_26 (by first | assumption | rfl) ?_
  refine j_puti hE pX11_89 dX11_takeRead_29 (by first | assumption | rfl) rfl rfl ?_
  refine j_aload0 hE dX11_takeRead_32 ?_
  refine j_aload0 hE dX11_takeRead_33 ?_
  refine j_geti hE fX11_152 dX11_takeRead_34 (by first | assumption | rfl) ?_
  refine j_puti hE pX11_92 dX11_takeRead_37 (by first | assumption | rfl) rfl rfl ?_
  refine j_aload0 hE dX11_takeRead_40 ?_
  refine j_aload0 hE dX11_takeRead_41 ?_
  refine j_geti hE fX11_159 dX11_takeRead_42 (by first | assumption | rfl) ?_
  refine j_puti hE pX11_185 dX11_takeRead_45 (by first | assumption | rfl) rfl rfl ?_
  refine j_eqS (S' := mreadS S) rfl ?_
  refine j_aload0 hE dX11_takeRead_48 ?_
  refine j_getr hE fX11_32 dX11_takeRead_49 (j := 121) (by first | assumption | rfl) (rfl) ?_
  refine j_aload0 hE dX11_takeRead_52 ?_
  refine j_getr hE fX11_7 dX11_takeRead_53 (j := 115) (by first | assumption | rfl) (rfl) ?_
  refine j_aload0 hE dX11_takeRead_56 ?_
  refine j_geti hE fX11_86 dX11_takeRead_57 (by first | assumption | rfl) ?_
  refine j_top (y := nI nl) e2 ?_
  refine j_S3v hE mX11_188 (c_X11_copyRow l C hC _ 121 115 4 4 nl rfl rfl (by decide) (by omega) (by omega) (by decide) (by decide)) dX11_takeRead_60 (by decide) (Nat.le_of_ble_eq_true rfl) ?_
  refine j_aload0 hE dX11_takeRead_63 ?_
  refine j_getr hE fX11_35 dX11_takeRead_64 (j := 122) (by first | assumption | rfl) (rfl) ?_
  refine j_aload0 hE dX11_takeRead_67 ?_
  refine j_getr hE fX11_13 dX11_takeRead_68 (j := 116) (by first | assumption | rfl) (rfl) ?_
  refine j_aload0 hE dX11_takeRead_71 ?_
  refine j_geti hE fX11_89 dX11_takeRead_72 (by first | assumption | rfl) ?_
  refine j_top (y := nI nc) (by rw [upA_ne _ _ (by decide)]; exact e4) ?_
  refine j_S3v hE mX11_188 (c_X11_copyRow l C hC _ 122 116 6 6 nc rfl rfl (by decide) (by omega) (by omega) (by decide) (by decide)) dX11_takeRead_75 (by decide) (Nat.le_of_ble_eq_true rfl) ?_
  refine j_aload0 hE dX11_takeRead_78 ?_
  refine j_getr hE fX11_38 dX11_takeRead_79 (j := 123) (by first | assumption | rfl) (rfl) ?_
  refine j_aload0 hE dX11_takeRead_82 ?_
  refine j_getr hE fX11_16 dX11_takeRead_83 (j := 117) (by first | assumption | rfl) (rfl) ?_
  refine j_aload0 hE dX11_takeRead_86 ?_
  refine j_geti hE fX11_89 dX11_takeRead_87 (by first | assumption | rfl) ?_
  refine j_top (y := nI nc) (by rw [upA_ne _ _ (by decide), upA_ne _ _ (by decide)]; exact e4) ?_
  refine j_S3v hE mX11_188 (c_X11_copyRow l C hC _ 123 117 6 6 nc rfl rfl (by decide) (by omega) (by omega) (by decide) (by decide)) dX11_takeRead_90 (by decide) (Nat.le_of_ble_eq_true rfl) ?_
  refine j_aload0 hE dX11_takeRead_93 ?_
  refine j_getr hE fX11_41 dX11_takeRead_94 (j := 124) (by first | assumption | rfl) (rfl) ?_
  refine j_aload0 hE dX11_takeRead_97 ?_
  refine j_getr hE fX11_19 dX11_takeRead_98 (j := 118) (by first | assumption | rfl) (rfl) ?_
  refine j_aload0 hE dX11_takeRead_101 ?_
  refine j_geti hE fX11_92 dX11_takeRead_102 (by first | assumption | rfl) ?_
  refine j_top (y := nI nf) (by rw [upA_ne _ _ (by decide), upA_ne _ _ (by decide), upA_ne _ _ (by decide)]; exact e7) ?_
  refine j_S3v hE mX11_188 (c_X11_copyRow l C hC _ 124 118 5 5 nf rfl rfl (by decide) (by omega) (by omega) (by decide) (by decide)) dX11_takeRead_105 (by decide) (Nat.le_of_ble_eq_true rfl) ?_
  refine j_eqS (S' := (mreadC (mreadS S) nl nc nf)) rfl ?_
  refine j_iconst hE (nI 0) dX11_takeRead_108 kiconst_0 ?_
  refine j_istore1 hE dX11_takeRead_109 rfl ?_
  have L110 : ∀ (fu : Nat) (i : Nat), 34 - i < fu → (i ≤ 34) → J C E (upA (mreadC (mreadS S) nl nc nf) 119 (cpN i (fun _ => nI 0) ((mreadC (mreadS S) nl nc nf) 119))) 110 [some (.ref (C.2.1 114)), some (.int (nI i))] [] := by
    intro fu
    induction fu with
    | zero => intro i hm; omega
    | succ fu ih =>
      intro i hm hi
      refine j_iload1 hE dX11_takeRead_110 ?_
      refine j_bipush hE (nI 34) dX11_takeRead_111 kbipush_34 ?_
      refine j_icmpge hE 129 dX11_takeRead_113 (by decide) (fun c113 => ?_) (fun c113 => ?_)
      · skip
        have c113 := (nI_leI (by omega) (by omega)).mp c113
        have hii : i = 34 := by omega
        subst hii
        refine j_iconst hE (nI 0) dX11_takeRead_129 kiconst_0 ?_
        refine j_istore1 hE dX11_takeRead_130 rfl ?_
        have L131 : ∀ (fu : Nat) (i : Nat), nl - i < fu → (i ≤ nl) → J C E (upA (mreadC (mreadS S) nl nc nf) 119 (putW (cpN 34 (fun _ => nI 0) ((mreadC (mreadS S) nl nc nf) 119)) ((mreadC (mreadS S) nl nc nf) 115) 25 i)) 131 [some (.ref (C.2.1 114)), some (.int (nI i))] [] := by
          intro fu
          induction fu with
          | zero => intro i hm; omega
          | succ fu ih_ =>
            intro i hm hi
            refine j_iload1 hE dX11_takeRead_131 ?_
            refine j_aload0 hE dX11_takeRead_132 ?_
            refine j_geti hE fX11_86 dX11_takeRead_133 (by first | assumption | rfl) ?_
            refine j_icmpge hE 160 dX11_takeRead_136 (by decide) (fun c136 => ?_) (fun c136 => ?_)
            · skip
              rw [upA_ne _ _ (by decide), mreadC_o (by omega)] at c136
              rw [e2] at c136
              have c136 := (nI_leI (by omega) (by omega)).mp c136
              have hii : nl = i := by omega
              subst hii
              refine j_aload0 hE dX11_takeRead_160 ?_
              refine j_getr hE fX11_22 dX11_takeRead_161 (j := 119) (by first | assumption | rfl) (rfl) ?_
              refine j_bipush hE (nI 29) dX11_takeRead_164 kbipush_29 ?_
              refine j_aload0 hE dX11_takeRead_166 ?_
              refine j_geti hE fX11_185 dX11_takeRead_167 (by first | assumption | rfl) ?_
              refine j_iastN hE dX11_takeRead_170 (by first | assumption | rfl) (by omega) (by decide) ?_
              exact j_vret hE hR dX11_takeRead_171 (rfl)
            · skip
              rw [upA_ne _ _ (by decide), mreadC_o (by omega)] at c136
              rw [e2] at c136
              have c136 : i < nl := Nat.lt_of_not_le (fun q => c136 (nI_le q (by omega)))
              refine j_aload0 hE dX11_takeRead_139 ?_
              refine j_getr hE fX11_22 dX11_takeRead_140 (j := 119) (by first | assumption | rfl) (rfl) ?_
              refine j_bipush hE (nI 25) dX11_takeRead_143 kbipush_25 ?_
              refine j_iload1 hE dX11_takeRead_145 ?_
              refine j_iadd hE dX11_takeRead_146 ?_
              refine j_aload0 hE dX11_takeRead_147 ?_
              refine j_getr hE fX11_7 dX11_takeRead_148 (j := 115) (by first | assumption | rfl) (rfl) ?_
              refine j_iload1 hE dX11_takeRead_151 ?_
              refine j_ialdN hE dX11_takeRead_152 (by first | assumption | rfl) (by omega) (by decide) ?_
              refine j_top2 (nI_add 25 i) ?_
              refine j_iastN hE dX11_takeRead_153 (by first | assumption | rfl) (by omega) (by decide) ?_
              refine j_iinc1 hE (nI (i + 1)) dX11_takeRead_154 (nI_inc _) rfl ?_
              refine j_goto hE 131 dX11_takeRead_157 (by decide) ?_
              exact j_cast (by rw [up2_upA, upA_ne (j := 115) _ _ (by decide), putW_s]) rfl (ih_ (i + 1) (by omega) (by omega))
        exact j_cast (by rw [putW_0]) rfl (L131 (nl + 1) 0 (by omega) (by omega))
      · skip
        have c113 : i < 34 := Nat.lt_of_not_le (fun q => c113 (nI_le q (by omega)))
        refine j_aload0 hE dX11_takeRead_116 ?_
        refine j_getr hE fX11_22 dX11_takeRead_117 (j := 119) (by first | assumption | rfl) (rfl) ?_
        refine j_iload1 hE dX11_takeRead_120 ?_
        refine j_iconst hE (nI 0) dX11_takeRead_121 kiconst_0 ?_
        refine j_iastN hE dX11_takeRead_122 (by first | assumption | rfl) (by omega) (by decide) ?_
        refine j_iinc1 hE (nI (i + 1)) dX11_takeRead_123 (nI_inc _) rfl ?_
        refine j_goto hE 110 dX11_takeRead_126 (by decide) ?_
        exact j_cast (by rw [up2_upA, cpN_s]) rfl (ih (i + 1) (by omega) (by omega))
  exact j_cast (by rw [cpN_0, upA_self]) rfl (L110 35 0 (by omega) (by omega))

/-! a crack -/
def mcA (S : Sto) (n a k : Nat) : Sto := up2 (mtnS S n a (nI 0) (mtlH S)) 122 k (mtnS S n a (nI 0) (mtlH S) 114 16)
def mcV1 (S : Sto) (n a : Nat) : Int32 := mtnV S n a (nI 0) (mtlH S)
def mcB (S : Sto) (n a k : Nat) : Sto := up2 (mtnS (mcA S n a k) n (mtnA S n a) (nI 0) (mtlH S)) 123 k (mtnS (mcA S n a k) n (mtnA S n a) (nI 0) (mtlH S) 114 16)
def mcV2 (S : Sto) (n a k : Nat) : Int32 := mtnV (mcA S n a k) n (mtnA S n a) (nI 0) (mtlH S)
abbrev mcOk (S : Sto) (n a k : Nat) : Prop := nxP (mcB S n a k 122 k) (mcB S n a k 123 k) (mcB S n a k 114 19) ∧ ¬ mtdB (mcB S n a k) (mcB S n a k 122 k) (mcB S n a k 123 k) k = true
def mcV (S : Sto) (n a k : Nat) : Int32 := if mcV1 S n a ≤ 0 then (if mcV2 S n a k ≤ 0 then (if mcOk S n a k then nI 0 else nI 4) else mcV2 S n a k) else mcV1 S n a
def mcS (S : Sto) (n a k : Nat) : Sto := if mcV1 S n a ≤ 0 then (if mcV2 S n a k ≤ 0 then (if mcOk S n a k then up2 (mcB S n a k) 114 22 (nI (k + 1)) else up2 (mcB S n a k) 114 14 (mcB S n a k 114 17)) else mcB S n a k) else mcA S n a k
theorem mcA_k {S : Sto} {n a k j : Nat} (h : j < 14 ∨ 17 < j) : mcA S n a k 114 j = S 114 j := by unfold mcA; rw [up2_ne _ _ _ (by decide), mtnS_k h]
theorem mcA_15 {S : Sto} {n a k : Nat} : mcA S n a k 114 15 = nI (mtnA S n a) := by unfold mcA; rw [up2_ne _ _ _ (by decide), mtnS_15]
theorem mcB_k {S : Sto} {n a k j : Nat} (h : j < 14 ∨ 17 < j) : mcB S n a k 114 j = S 114 j := by unfold mcB; rw [up2_ne _ _ _ (by decide), mtnS_k h, mcA_k h]
set_option maxHeartbeats 4000000 in
set_option maxRecDepth 100000 in
theorem c_X11_takeCrack (l : Launch) (C : JC) (hC : JInj C) (S : Sto) (n : Nat) (hn : S 114 13 = nI n) (hn240 : n ≤ 240) (a : Nat) (ha : S 114 15 = nI a) (han : a ≤ n) (k : Nat) (hk : S 114 22 = nI k) (hk6 : k < 6) (hw : ¬ S 114 19 = 0) : Con l C yX11_takeCrack cX11_takeCrack 3 (some .int) 6 [.ref (C.2.1 114)] S (some (.int (mcV S n a k))) (mcS S n a k) := by
  refine con_of RX11 2 [some (.ref (C.2.1 114)), none, none] (by decide) rfl hC (Nat.le_of_ble_eq_true rfl) rfl (Nat.le_of_ble_eq_true rfl) (fun E hE hR => ?_)
  refine j_aload0 hE dX11_takeCrack_0 ?_
  refine j_geti hE fX11_141 dX11_takeCrack_1 (by first | assumption | rfl) ?_
  refine j_top (y := nI k) hk ?_
  refine j_istore1 hE dX11_takeCrack_4 rfl ?_
  refine j_aload0 hE dX11_takeCrack_5 ?_
  refine j_aload0 hE dX11_takeCrack_6 ?_
  refine j_getr hE fX11_35 dX11_takeCrack_7 (j := 122) (by first | assumption | rfl) (rfl) ?_
  refine j_iload1 hE dX11_takeCrack_10 ?_
  refine j_iconst hE (nI 0) dX11_takeCrack_11 kiconst_0 ?_
  refine j_aload0 hE dX11_takeCrack_12 ?_
  refine j_V0i hE mX11_134 (c_X11_readCells l C hC _) dX11_takeCrack_13 (by first | assumption | rfl) (by decide) (Nat.le_of_ble_eq_true rfl) ?_
  refine j_iconst hE (nI 1) dX11_takeCrack_16 kiconst_1 ?_
  refine j_isub hE dX11_takeCrack_17 ?_
  refine j_top (y := mtlH S) rfl ?_
  refine j_V4i hE mX11_137 (c_X11_into l C hC S n hn hn240 a ha han 122 6 k rfl hk6 (by decide) _ _) dX11_takeCrack_18 (by first | assumption | rfl) (by decide) (Nat.le_of_ble_eq_true rfl) ?_
  refine j_istore2 hE dX11_takeCrack_21 rfl ?_
  refine j_eqS (S' := mcA S n a k) rfl ?_
  refine j_iload2 hE dX11_takeCrack_22 ?_
  refine j_ifle hE 30 dX11_takeCrack_23 (by decide) (fun c23 => ?_) (fun c23 => ?_)
  · skip
    have c23 : mcV1 S n a ≤ 0 := c23
    refine j_aload0 hE dX11_takeCrack_30 ?_
    refine j_aload0 hE dX11_takeCrack_31 ?_
    refine j_getr hE fX11_38 dX11_takeCrack_32 (j := 123) (by first | assumption | rfl) (rfl) ?_
    refine j_iload1 hE dX11_takeCrack_35 ?_
    refine j_iconst hE (nI 0) dX11_takeCrack_36 kiconst_0 ?_
    refine j_aload0 hE dX11_takeCrack_37 ?_
    refine j_V0i hE mX11_134 (c_X11_readCells l C hC _) dX11_takeCrack_38 (by first | assumption | rfl) (by decide) (Nat.le_of_ble_eq_true rfl) ?_
    refine j_iconst hE (nI 1) dX11_takeCrack_41 kiconst_1 ?_
    refine j_isub hE dX11_takeCrack_42 ?_
    refine j_top (y := mtlH S) (by rw [mcA_k (by omega), mcA_k (by omega)]; rfl) ?_
    refine j_V4i hE mX11_137 (c_X11_into l C hC (mcA S n a k) n (by rw [mcA_k (by omega)]; exact hn) hn240 (mtnA S n a) mcA_15 (mtnA_le han) 123 6 k rfl hk6 (by decide) _ _) dX11_takeCrack_43 (by first | assumption | rfl) (by decide) (Nat.le_of_ble_eq_true rfl) ?_
    refine j_eqS (S' := mcB S n a k) rfl ?_
    refine j_istore2 hE dX11_takeCrack_46 rfl ?_
    refine j_iload2 hE dX11_takeCrack_47 ?_
    refine j_ifle hE 53 dX11_takeCrack_48 (by decide) (fun c48 => ?_) (fun c48 => ?_)
    · skip
      try have c48 : mcV2 S n a k ≤ 0 := c48
      refine j_aload0 hE dX11_takeCrack_53 ?_
      refine j_getr hE fX11_35 dX11_takeCrack_54 (j := 122) (by first | assumption | rfl) (rfl) ?_
      refine j_iload1 hE dX11_takeCrack_57 ?_
      refine j_ialdN hE dX11_takeCrack_58 (by first | assumption | rfl) (by omega) (by decide) ?_
      refine j_aload0 hE dX11_takeCrack_59 ?_
      refine j_getr hE fX11_38 dX11_takeCrack_60 (j := 123) (by first | assumption | rfl) (rfl) ?_
      refine j_iload1 hE dX11_takeCrack_63 ?_
      refine j_ialdN hE dX11_takeCrack_64 (by first | assumption | rfl) (by omega) (by decide) ?_
      refine j_aload0 hE dX11_takeCrack_65 ?_
      refine j_geti hE fX11_128 dX11_takeCrack_66 (by first | assumption | rfl) ?_
      refine j_S3i hE mX11_144 (c_X11_areNext l C hC _ _ _ _ (by rw [mcB_k (by omega)]; exact hw)) dX11_takeCrack_69 (by decide) (Nat.le_of_ble_eq_true rfl) ?_
      first | refine j_ifeqP hE 94 dX11_takeCrack_72 (by decide) (fun c72 => ?_) (fun c72 => ?_) | refine j_ifeq hE 94 dX11_takeCrack_72 (by decide) (fun c72 => ?_) (fun c72 => ?_)
      · skip
        refine j_aload0 hE dX11_takeCrack_94 ?_
        refine j_iconst hE (nI 4) dX11_takeCrack_95 kiconst_4 ?_
        refine j_aload0 hE dX11_takeCrack_96 ?_
        refine j_geti hE fX11_116 dX11_takeCrack_97 (by first | assumption | rfl) ?_
        refine j_V2i hE mX11_112 (c_X11_fails l C hC _ _ _) dX11_takeCrack_100 (by first | assumption | rfl) (by decide) (Nat.le_of_ble_eq_true rfl) ?_
        exact j_iret hE hR dX11_takeCrack_103 (by first | (rw [mcV, if_pos c23, if_pos c48, if_neg (fun z => c72 z.1)]; done) | (rw [mcV, if_pos c23, if_pos c48, if_neg (fun z => z.2 c91)]; done)) (by first | (rw [mcS, if_pos c23, if_pos c48, if_neg (fun z => c72 z.1)]; done) | (rw [mcS, if_pos c23, if_pos c48, if_neg (fun z => z.2 c91)]; done))
      · skip
        refine j_aload0 hE dX11_takeCrack_75 ?_
        refine j_aload0 hE dX11_takeCrack_76 ?_
        refine j_getr hE fX11_35 dX11_takeCrack_77 (j := 122) (by first | assumption | rfl) (rfl) ?_
        refine j_iload1 hE dX11_takeCrack_80 ?_
        refine j_ialdN hE dX11_takeCrack_81 (by first | assumption | rfl) (by omega) (by decide) ?_
        refine j_aload0 hE dX11_takeCrack_82 ?_
        refine j_getr hE fX11_38 dX11_takeCrack_83 (j := 123) (by first | assumption | rfl) (rfl) ?_
        refine j_iload1 hE dX11_takeCrack_86 ?_
        refine j_ialdN hE dX11_takeCrack_87 (by first | assumption | rfl) (by omega) (by decide) ?_
        refine j_V2i hE mX11_148 (c_X11_isTold l C hC _ k (by rw [mcB_k (by omega)]; exact hk) (by omega) _ _) dX11_takeCrack_88 (by first | assumption | rfl) (by decide) (Nat.le_of_ble_eq_true rfl) ?_
        first | refine j_ifeqP hE 104 dX11_takeCrack_91 (by decide) (fun c91 => ?_) (fun c91 => ?_) | refine j_ifeq hE 104 dX11_takeCrack_91 (by decide) (fun c91 => ?_) (fun c91 => ?_)
        · skip
          refine j_aload0 hE dX11_takeCrack_104 ?_
          refine j_dup hE dX11_takeCrack_105 rfl ?_
          refine j_geti hE fX11_141 dX11_takeCrack_106 (by first | assumption | rfl) ?_
          refine j_iconst hE (nI 1) dX11_takeCrack_109 kiconst_1 ?_
          refine j_iadd hE dX11_takeCrack_110 ?_
          refine j_puti hE pX11_141 dX11_takeCrack_111 (by first | assumption | rfl) rfl rfl ?_
          refine j_iconst hE (nI 0) dX11_takeCrack_114 kiconst_0 ?_
          exact j_iret hE hR dX11_takeCrack_115 (by rw [mcV, if_pos c23, if_pos c48, if_pos ⟨c72, c91⟩]) (by rw [mcS, if_pos c23, if_pos c48, if_pos ⟨c72, c91⟩, mcB_k (by omega), hk, nI_add])
        · skip
          refine j_aload0 hE dX11_takeCrack_94 ?_
          refine j_iconst hE (nI 4) dX11_takeCrack_95 kiconst_4 ?_
          refine j_aload0 hE dX11_takeCrack_96 ?_
          refine j_geti hE fX11_116 dX11_takeCrack_97 (by first | assumption | rfl) ?_
          refine j_V2i hE mX11_112 (c_X11_fails l C hC _ _ _) dX11_takeCrack_100 (by first | assumption | rfl) (by decide) (Nat.le_of_ble_eq_true rfl) ?_
          exact j_iret hE hR dX11_takeCrack_103 (by first | (rw [mcV, if_pos c23, if_pos c48, if_neg (fun z => c72 z.1)]; done) | (rw [mcV, if_pos c23, if_pos c48, if_neg (fun z => z.2 c91)]; done)) (by first | (rw [mcS, if_pos c23, if_pos c48, if_neg (fun z => c72 z.1)]; done) | (rw [mcS, if_pos c23, if_pos c48, if_neg (fun z => z.2 c91)]; done))
    · skip
      refine j_iload2 hE dX11_takeCrack_51 ?_
      exact j_iret hE hR dX11_takeCrack_52 (by first | (rw [mcV, if_neg c23]; rfl) | (rw [mcV, if_neg c23]; done) | (rw [mcV, if_pos c23, if_neg (show ¬ mcV2 S n a k ≤ 0 from c48)]; first | done | rfl)) (by first | (rw [mcS, if_neg c23]; done) | (rw [mcS, if_pos c23, if_neg (show ¬ mcV2 S n a k ≤ 0 from c48)]; done))
  · skip
    have c23 : ¬ mcV1 S n a ≤ 0 := c23
    refine j_iload2 hE dX11_takeCrack_26 ?_
    refine j_goto hE 46 dX11_takeCrack_27 (by decide) ?_
    refine j_istore2 hE dX11_takeCrack_46 rfl ?_
    refine j_iload2 hE dX11_takeCrack_47 ?_
    refine j_ifle hE 53 dX11_takeCrack_48 (by decide) (fun c48 => ?_) (fun c48 => ?_)
    · skip
      try have c48 : mcV2 S n a k ≤ 0 := c48
      exact absurd c48 c23
    · skip
      refine j_iload2 hE dX11_takeCrack_51 ?_
      exact j_iret hE hR dX11_takeCrack_52 (by first | (rw [mcV, if_neg c23]; rfl) | (rw [mcV, if_neg c23]; done) | (rw [mcV, if_pos c23, if_neg (show ¬ mcV2 S n a k ≤ 0 from c48)]; first | done | rfl)) (by first | (rw [mcS, if_neg c23]; done) | (rw [mcS, if_pos c23, if_neg (show ¬ mcV2 S n a k ≤ 0 from c48)]; done))

