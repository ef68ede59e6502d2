/-! a likeness: row by row -/
def mtlI (S : Sto) (k : Nat) : Sto := up2 (up2 S 114 25 (nI (k + 1))) 124 k (nI 0)
def atN (S : Sto) : Nat := (S 114 15).toNatClampNeg
def mtlP (S : Sto) (n i : Nat) : Sto := if i = 0 then S else up2 S 114 15 (nI (skp (S 120) n (atN S) + 1))
def mtlQ (S : Sto) (n i : Nat) : Nat := if i = 0 then atN S else skp (S 120) n (atN S) + 1
def mtlX (S : Sto) : Int32 := (nI 1 <<< (S 114 19 &&& 31)) - nI 1
def mtlU (S : Sto) (n i : Nat) : Sto := mtnS (mtlP S n i) n (mtlQ S n i) (nI 0) (mtlX S)
def mtlV (S : Sto) (n i : Nat) : Int32 := mtnV (mtlP S n i) n (mtlQ S n i) (nI 0) (mtlX S)
def mtlZ (S : Sto) (n k i : Nat) : Sto := up2 (mtlU S n i) 124 k (mtlU S n i 124 k ||| (if mtlV S n i ≤ 0 then mtlU S n i 114 16 <<< ((mtlU S n i 114 19 * nI i) &&& 31) else nI 0))
def mtlG (n k : Nat) : Nat → Nat → Sto → Int32 → Int32 × Sto
  | 0, _, S, f => (f, S)
  | m + 1, i, S, f => if f = 0 then (if ¬ i = 0 ∧ ¬ cur (S 120) n (skp (S 120) n (atN S)) = nI 44 then (nI 1, up2 (up2 S 114 15 (nI (skp (S 120) n (atN S)))) 114 14 (nI (skp (S 120) n (atN S)))) else mtlG n k m (i + 1) (mtlZ S n k i) (mtlV S n i)) else (f, S)
theorem mtlP_k {S : Sto} {n i j : Nat} (h : j ≠ 15) : mtlP S n i 114 j = S 114 j := by
  unfold mtlP
  split
  · rfl
  · rw [up114b h]
theorem mtlP_o {S : Sto} {n i j : Nat} (h : j ≠ 114) : mtlP S n i j = S j := by
  unfold mtlP
  split
  · rfl
  · rw [up2_ne _ _ _ h]
theorem mtlP_15 {S : Sto} {n i b : Nat} (h : S 114 15 = nI b) (hb : b ≤ 1000) : mtlP S n i 114 15 = nI (mtlQ S n i) := by
  unfold mtlP mtlQ
  split
  · unfold atN
    rw [h, nI_clamp (by omega)]
  · rw [up2_same, pk_us]
theorem mtlZ_k {S : Sto} {n k i j : Nat} (h : j < 14 ∨ 17 < j) : mtlZ S n k i 114 j = S 114 j := by
  unfold mtlZ mtlU
  rw [up2_ne _ _ _ (by decide), mtnS_k h, mtlP_k (by omega)]
theorem mtlZ_15 {S : Sto} {n k i : Nat} : mtlZ S n k i 114 15 = nI (mtnA (mtlP S n i) n (mtlQ S n i)) := by
  unfold mtlZ mtlU
  rw [up2_ne _ _ _ (by decide), mtnS_15]
theorem mtlZ_o {S : Sto} {n k i j : Nat} (h : j ≠ 114) (h2 : j ≠ 124) : mtlZ S n k i j = S j := by
  unfold mtlZ mtlU
  rw [up2_ne _ _ _ h2, mtnS_o h, mtlP_o h]
theorem mtlQ_le {S : Sto} {n i b : Nat} (h : S 114 15 = nI b) (hb : b ≤ n) (hn : n ≤ 240) (hc : ¬ i = 0 → cur (S 120) n (skp (S 120) n (atN S)) = nI 44) : mtlQ S n i ≤ n := by
  unfold mtlQ
  split
  · unfold atN
    rw [h, nI_clamp (by omega)]
    exact hb
  · next q => exact cur_lt (hc q) (by decide)
set_option maxHeartbeats 4000000 in
set_option maxRecDepth 100000 in
theorem c_X11_takeLike (l : Launch) (C : JC) (hC : JInj C) (S : Sto) (n : Nat) (hn : S 114 13 = nI n) (hn240 : n ≤ 240) (a : Nat) (ha : S 114 15 = nI a) (han : a ≤ n) (k : Nat) (hk : S 114 25 = nI k) (hk5 : k < 5) (hh : Nat) (hhh : S 114 18 = nI hh) (hh5 : hh ≤ 5) : Con l C yX11_takeLike cX11_takeLike 4 (some .int) 5 [.ref (C.2.1 114)] S (some (.int ((mtlG n k hh 0 (mtlI S k) (nI 0)).1))) ((mtlG n k hh 0 (mtlI S k) (nI 0)).2) := by
  refine con_of RX11 3 [some (.ref (C.2.1 114)), none, none, none] (by decide) rfl hC (Nat.le_of_ble_eq_true rfl) rfl (Nat.le_of_ble_eq_true rfl) (fun E hE hR => ?_)
  refine j_aload0 hE dX11_takeLike_0 ?_
  refine j_geti hE fX11_152 dX11_takeLike_1 (by first | assumption | rfl) ?_
  refine j_top (y := nI k) hk ?_
  refine j_istore1 hE dX11_takeLike_4 rfl ?_
  refine j_aload0 hE dX11_takeLike_5 ?_
  refine j_dup hE dX11_takeLike_6 rfl ?_
  refine j_geti hE fX11_152 dX11_takeLike_7 (by first | assumption | rfl) ?_
  refine j_iconst hE (nI 1) dX11_takeLike_10 kiconst_1 ?_
  refine j_iadd hE dX11_takeLike_11 ?_
  refine j_top (y := nI (k + 1)) (by rw [hk, nI_add]) ?_
  refine j_puti hE pX11_152 dX11_takeLike_12 (by first | assumption | rfl) rfl rfl ?_
  refine j_aload0 hE dX11_takeLike_15 ?_
  refine j_getr hE fX11_41 dX11_takeLike_16 (j := 124) (by first | assumption | rfl) (rfl) ?_
  refine j_iload1 hE dX11_takeLike_19 ?_
  refine j_iconst hE (nI 0) dX11_takeLike_20 kiconst_0 ?_
  refine j_iastN hE dX11_takeLike_21 (by first | assumption | rfl) (by omega) (by decide) ?_
  refine j_eqS (S' := mtlI S k) rfl ?_
  refine j_iconst hE (nI 0) dX11_takeLike_22 kiconst_0 ?_
  refine j_istore2 hE dX11_takeLike_23 rfl ?_
  refine j_iconst hE (nI 0) dX11_takeLike_24 kiconst_0 ?_
  refine j_istore3 hE dX11_takeLike_25 rfl ?_
  have L26 : ∀ (fu : Nat) (i : Nat) (U : Sto) (f : Int32) (b : Nat), hh - i < fu → (i ≤ hh) → (U 114 13 = nI n) → (U 114 15 = nI b) → (b ≤ n) → (U 114 18 = nI hh) → (mtlG n k (hh - i) i U f = mtlG n k hh 0 (mtlI S k) (nI 0)) → J C E U 26 [some (.ref (C.2.1 114)), some (.int (nI k)), some (.int f), some (.int (nI i))] [] := by
    intro fu
    induction fu with
    | zero => intro i U f b hm; omega
    | succ fu ih =>
      intro i U f b hm hi h13 h15 hbn h18 hG
      have hAt : atN U = b := by unfold atN; rw [h15, nI_clamp (by omega)]
      refine j_iload3 hE dX11_takeLike_26 ?_
      refine j_aload0 hE dX11_takeLike_27 ?_
      refine j_geti hE fX11_125 dX11_takeLike_28 (by first | assumption | rfl) ?_
      refine j_icmpge hE 127 dX11_takeLike_31 (by decide) (fun c31 => ?_) (fun c31 => ?_)
      · skip
        rw [h18] at c31
        have c31 : hh ≤ i := (nI_leI (by omega) (by omega)).mp c31
        have hGG : (f, U) = mtlG n k hh 0 (mtlI S k) (nI 0) := by rw [← hG, show hh - i = 0 by omega]; rfl
        refine j_iload2 hE dX11_takeLike_127 ?_
        exact j_iret hE hR dX11_takeLike_128 (by rw [← hGG]) (by rw [← hGG])
      · skip
        rw [h18] at c31
        have c31 : i < hh := Nat.lt_of_not_le (fun z => c31 (nI_le z (by omega)))
        refine j_iload2 hE dX11_takeLike_34 ?_
        refine j_ifne hE 127 dX11_takeLike_35 (by decide) (fun c35 => ?_) (fun c35 => ?_)
        · skip
          have hGG : (f, U) = mtlG n k hh 0 (mtlI S k) (nI 0) := by rw [← hG, show hh - i = hh - (i + 1) + 1 by omega, mtlG, if_neg c35]
          refine j_iload2 hE dX11_takeLike_127 ?_
          exact j_iret hE hR dX11_takeLike_128 (by rw [← hGG]) (by rw [← hGG])
        · skip
          refine j_iload3 hE dX11_takeLike_38 ?_
          refine j_ifle hE 61 dX11_takeLike_39 (by decide) (fun c39 => ?_) (fun c39 => ?_)
          · skip
            refine j_aload0 hE dX11_takeLike_61 ?_
            refine j_dup hE dX11_takeLike_62 rfl ?_
            refine j_geti hE fX11_102 dX11_takeLike_63 (by first | assumption | rfl) ?_
            refine j_iload3 hE dX11_takeLike_66 ?_
            refine j_ifle hE 74 dX11_takeLike_67 (by decide) (fun c67 => ?_) (fun c67 => ?_)
            · skip
              refine j_iconst hE (nI 0) dX11_takeLike_74 kiconst_0 ?_
              refine j_iadd hE dX11_takeLike_75 ?_
              refine j_puti hE pX11_102 dX11_takeLike_76 (by first | assumption | rfl) rfl rfl ?_
              have hz : i = 0 := by
                rcases Nat.eq_zero_or_pos i with z | z
                · exact z
                · exact absurd c39 (nI_nle z (by omega))
              have hok : ¬ i = 0 → cur (U 120) n (skp (U 120) n (atN U)) = nI 44 := fun z => absurd hz z
              refine j_eqS (S' := mtlP U n i) (by rw [mtlP, if_pos hz, show U 114 15 + nI 0 = U 114 15 by rw [h15, nI_add, Nat.add_zero], up2_id rfl]) ?_
              refine j_aload0 hE dX11_takeLike_79 ?_
              refine j_iconst hE (nI 0) dX11_takeLike_80 kiconst_0 ?_
              refine j_iconst hE (nI 1) dX11_takeLike_81 kiconst_1 ?_
              refine j_aload0 hE dX11_takeLike_82 ?_
              refine j_geti hE fX11_128 dX11_takeLike_83 (by first | assumption | rfl) ?_
              refine j_ishl hE dX11_takeLike_86 ?_
              refine j_iconst hE (nI 1) dX11_takeLike_87 kiconst_1 ?_
              refine j_isub hE dX11_takeLike_88 ?_
              refine j_top (y := mtlX U) (by rw [mtlP_k (by decide)]; rfl) ?_
              refine j_V2i hE mX11_122 (c_X11_takeNumber l C hC (mtlP U n i) n (by rw [mtlP_k (by decide)]; exact h13) hn240 (mtlQ U n i) (mtlP_15 h15 (by omega)) (mtlQ_le h15 hbn hn240 hok) _ _) dX11_takeLike_89 (by first | assumption | rfl) (by decide) (Nat.le_of_ble_eq_true rfl) ?_
              refine j_eqS (S' := mtlU U n i) rfl ?_
              refine j_istore2 hE dX11_takeLike_92 rfl ?_
              refine j_aload0 hE dX11_takeLike_93 ?_
              refine j_getr hE fX11_41 dX11_takeLike_94 (j := 124) (by first | assumption | rfl) (rfl) ?_
              refine j_iload1 hE dX11_takeLike_97 ?_
              refine j_dup2 hE dX11_takeLike_98 rfl rfl ?_
              refine j_ialdN hE dX11_takeLike_99 (by first | assumption | rfl) (by omega) (by decide) ?_
              refine j_iload2 hE dX11_takeLike_100 ?_
              refine j_ifle hE 108 dX11_takeLike_101 (by decide) (fun c101 => ?_) (fun c101 => ?_)
              · skip
                have c101 : mtlV U n i ≤ 0 := c101
                refine j_aload0 hE dX11_takeLike_108 ?_
                refine j_geti hE fX11_119 dX11_takeLike_109 (by first | assumption | rfl) ?_
                refine j_aload0 hE dX11_takeLike_112 ?_
                refine j_geti hE fX11_128 dX11_takeLike_113 (by first | assumption | rfl) ?_
                refine j_iload3 hE dX11_takeLike_116 ?_
                refine j_imul hE dX11_takeLike_117 ?_
                refine j_ishl hE dX11_takeLike_118 ?_
                refine j_ior hE dX11_takeLike_119 ?_
                refine j_iastN hE dX11_takeLike_120 (by first | assumption | rfl) (by omega) (by decide) ?_
                refine j_iinc3 hE (nI (i + 1)) dX11_takeLike_121 (nI_inc _) rfl ?_
                refine j_goto hE 26 dX11_takeLike_124 (by decide) ?_
                exact j_cast (show _ = mtlZ U n k i by rw [mtlZ]; first | (rw [if_pos c101]; done) | (rw [if_neg c101]; done)) rfl (ih (i + 1) _ _ _ (by omega) (by omega) (by rw [mtlZ_k (by omega)]; exact h13) mtlZ_15 (mtnA_le (mtlQ_le h15 hbn hn240 hok)) (by rw [mtlZ_k (by omega)]; exact h18) (by rw [← hG, show hh - i = hh - (i + 1) + 1 by omega, mtlG, if_pos c35, if_neg (fun z => z.2 (hok z.1))]; rfl))
              · skip
                have c101 : ¬ mtlV U n i ≤ 0 := c101
                refine j_iconst hE (nI 0) dX11_takeLike_104 kiconst_0 ?_
                refine j_goto hE 119 dX11_takeLike_105 (by decide) ?_
                refine j_ior hE dX11_takeLike_119 ?_
                refine j_iastN hE dX11_takeLike_120 (by first | assumption | rfl) (by omega) (by decide) ?_
                refine j_iinc3 hE (nI (i + 1)) dX11_takeLike_121 (nI_inc _) rfl ?_
                refine j_goto hE 26 dX11_takeLike_124 (by decide) ?_
                exact j_cast (show _ = mtlZ U n k i by rw [mtlZ]; first | (rw [if_pos c101]; done) | (rw [if_neg c101]; done)) rfl (ih (i + 1) _ _ _ (by omega) (by omega) (by rw [mtlZ_k (by omega)]; exact h13) mtlZ_15 (mtnA_le (mtlQ_le h15 hbn hn240 hok)) (by rw [mtlZ_k (by omega)]; exact h18) (by rw [← hG, show hh - i = hh - (i + 1) + 1 by omega, mtlG, if_pos c35, if_neg (fun z => z.2 (hok z.1))]; rfl))
            · skip
              exact absurd c39 c67
          · skip
            refine j_aload0 hE dX11_takeLike_42 ?_
            refine j_V0i hE mX11_105 (c_X11_here l C hC _ n h13 hn240 b h15 hbn) dX11_takeLike_43 (by first | assumption | rfl) (by decide) (Nat.le_of_ble_eq_true rfl) ?_
            refine j_bipush hE (nI 44) dX11_takeLike_46 kbipush_44 ?_
            refine j_icmpeq hE 61 dX11_takeLike_48 (by decide) (fun c48 => ?_) (fun c48 => ?_)
            · skip
              refine j_aload0 hE dX11_takeLike_61 ?_
              refine j_dup hE dX11_takeLike_62 rfl ?_
              refine j_geti hE fX11_102 dX11_takeLike_63 (by first | assumption | rfl) ?_
              refine j_iload3 hE dX11_takeLike_66 ?_
              refine j_ifle hE 74 dX11_takeLike_67 (by decide) (fun c67 => ?_) (fun c67 => ?_)
              · skip
                exact absurd c67 c39
              · skip
                refine j_iconst hE (nI 1) dX11_takeLike_70 kiconst_1 ?_
                refine j_goto hE 75 dX11_takeLike_71 (by decide) ?_
                refine j_iadd hE dX11_takeLike_75 ?_
                refine j_puti hE pX11_102 dX11_takeLike_76 (by first | assumption | rfl) rfl rfl ?_
                have hz : ¬ i = 0 := fun z => by subst z; exact c39 (by decide)
                have hok : ¬ i = 0 → cur (U 120) n (skp (U 120) n (atN U)) = nI 44 := fun _ => by rw [hAt]; exact c48
                refine j_eqS (S' := mtlP U n i) (by rw [mtlP, if_neg hz, up2_same, pk_us, nI_add, up2_tw, hAt]) ?_
                refine j_aload0 hE dX11_takeLike_79 ?_
                refine j_iconst hE (nI 0) dX11_takeLike_80 kiconst_0 ?_
                refine j_iconst hE (nI 1) dX11_takeLike_81 kiconst_1 ?_
                refine j_aload0 hE dX11_takeLike_82 ?_
                refine j_geti hE fX11_128 dX11_takeLike_83 (by first | assumption | rfl) ?_
                refine j_ishl hE dX11_takeLike_86 ?_
                refine j_iconst hE (nI 1) dX11_takeLike_87 kiconst_1 ?_
                refine j_isub hE dX11_takeLike_88 ?_
                refine j_top (y := mtlX U) (by rw [mtlP_k (by decide)]; rfl) ?_
                refine j_V2i hE mX11_122 (c_X11_takeNumber l C hC (mtlP U n i) n (by rw [mtlP_k (by decide)]; exact h13) hn240 (mtlQ U n i) (mtlP_15 h15 (by omega)) (mtlQ_le h15 hbn hn240 hok) _ _) dX11_takeLike_89 (by first | assumption | rfl) (by decide) (Nat.le_of_ble_eq_true rfl) ?_
                refine j_eqS (S' := mtlU U n i) rfl ?_
                refine j_istore2 hE dX11_takeLike_92 rfl ?_
                refine j_aload0 hE dX11_takeLike_93 ?_
                refine j_getr hE fX11_41 dX11_takeLike_94 (j := 124) (by first | assumption | rfl) (rfl) ?_
                refine j_iload1 hE dX11_takeLike_97 ?_
                refine j_dup2 hE dX11_takeLike_98 rfl rfl ?_
                refine j_ialdN hE dX11_takeLike_99 (by first | assumption | rfl) (by omega) (by decide) ?_
                refine j_iload2 hE dX11_takeLike_100 ?_
                refine j_ifle hE 108 dX11_takeLike_101 (by decide) (fun c101 => ?_) (fun c101 => ?_)
                · skip
                  have c101 : mtlV U n i ≤ 0 := c101
                  refine j_aload0 hE dX11_takeLike_108 ?_
                  refine j_geti hE fX11_119 dX11_takeLike_109 (by first | assumption | rfl) ?_
                  refine j_aload0 hE dX11_takeLike_112 ?_
                  refine j_geti hE fX11_128 dX11_takeLike_113 (by first | assumption | rfl) ?_
                  refine j_iload3 hE dX11_takeLike_116 ?_
                  refine j_imul hE dX11_takeLike_117 ?_
                  refine j_ishl hE dX11_takeLike_118 ?_
                  refine j_ior hE dX11_takeLike_119 ?_
                  refine j_iastN hE dX11_takeLike_120 (by first | assumption | rfl) (by omega) (by decide) ?_
                  refine j_iinc3 hE (nI (i + 1)) dX11_takeLike_121 (nI_inc _) rfl ?_
                  refine j_goto hE 26 dX11_takeLike_124 (by decide) ?_
                  exact j_cast (show _ = mtlZ U n k i by rw [mtlZ]; first | (rw [if_pos c101]; done) | (rw [if_neg c101]; done)) rfl (ih (i + 1) _ _ _ (by omega) (by omega) (by rw [mtlZ_k (by omega)]; exact h13) mtlZ_15 (mtnA_le (mtlQ_le h15 hbn hn240 hok)) (by rw [mtlZ_k (by omega)]; exact h18) (by rw [← hG, show hh - i = hh - (i + 1) + 1 by omega, mtlG, if_pos c35, if_neg (fun z => z.2 (hok z.1))]; rfl))
                · skip
                  have c101 : ¬ mtlV U n i ≤ 0 := c101
                  refine j_iconst hE (nI 0) dX11_takeLike_104 kiconst_0 ?_
                  refine j_goto hE 119 dX11_takeLike_105 (by decide) ?_
                  refine j_ior hE dX11_takeLike_119 ?_
                  refine j_iastN hE dX11_takeLike_120 (by first | assumption | rfl) (by omega) (by decide) ?_
                  refine j_iinc3 hE (nI (i + 1)) dX11_takeLike_121 (nI_inc _) rfl ?_
                  refine j_goto hE 26 dX11_takeLike_124 (by decide) ?_
                  exact j_cast (show _ = mtlZ U n k i by rw [mtlZ]; first | (rw [if_pos c101]; done) | (rw [if_neg c101]; done)) rfl (ih (i + 1) _ _ _ (by omega) (by omega) (by rw [mtlZ_k (by omega)]; exact h13) mtlZ_15 (mtnA_le (mtlQ_le h15 hbn hn240 hok)) (by rw [mtlZ_k (by omega)]; exact h18) (by rw [← hG, show hh - i = hh - (i + 1) + 1 by omega, mtlG, if_pos c35, if_neg (fun z => z.2 (hok z.1))]; rfl))
            · skip
              refine j_aload0 hE dX11_takeLike_51 ?_
              refine j_iconst hE (nI 1) dX11_takeLike_52 kiconst_1 ?_
              refine j_aload0 hE dX11_takeLike_53 ?_
              refine j_geti hE fX11_102 dX11_takeLike_54 (by first | assumption | rfl) ?_
              refine j_top (y := nI (skp (U 120) n (atN U))) (by rw [hAt, up2_same, pk_us]) ?_
              refine j_V2i hE mX11_112 (c_X11_fails l C hC _ _ _) dX11_takeLike_57 (by first | assumption | rfl) (by decide) (Nat.le_of_ble_eq_true rfl) ?_
              exact j_iret hE hR dX11_takeLike_60 (by rw [← hG, show hh - i = hh - (i + 1) + 1 by omega, mtlG, if_pos c35, if_pos ⟨fun z => by subst z; exact c39 (by decide), by rw [hAt]; exact c48⟩]) (by rw [← hG, show hh - i = hh - (i + 1) + 1 by omega, mtlG, if_pos c35, if_pos ⟨fun z => by subst z; exact c39 (by decide), by rw [hAt]; exact c48⟩, hAt])
  exact L26 (hh + 1) 0 _ _ a (by omega) (by omega) (by rw [mtlI, up2_ne _ _ _ (by decide), up114b (by decide)]; exact hn) (by rw [mtlI, up2_ne _ _ _ (by decide), up114b (by decide)]; exact ha) han (by rw [mtlI, up2_ne _ _ _ (by decide), up114b (by decide)]; exact hhh) (by rw [Nat.sub_zero])

/-! one of the five -/
def bodV (S : Sto) (n a kl kc kf hh : Nat) (k : Int32) : Int32 := if k = nI 0 then mtwV S n a else if k = nI 1 then mtnV (mtlW S kl) n a (nI 0) (mtlH S) else if k = nI 2 then mcV S n a kc else if k = nI 3 then (mtlG n kf hh 0 (mtlI S kf) (nI 0)).1 else mtnV (mtdW S) n a (nI 0) (nI 2)
def bodS (S : Sto) (n a kl kc kf hh : Nat) (k : Int32) : Sto := if k = nI 0 then mtwS S n a else if k = nI 1 then mtlS S n a kl else if k = nI 2 then mcS S n a kc else if k = nI 3 then (mtlG n kf hh 0 (mtlI S kf) (nI 0)).2 else mtdS S n a
set_option maxHeartbeats 4000000 in
set_option maxRecDepth 100000 in
theorem c_X11_takeBody (l : Launch) (C : JC) (hC : JInj C) (S : Sto) (n : Nat) (hn : S 114 13 = nI n) (hn240 : n ≤ 240) (a : Nat) (ha : S 114 15 = nI a) (han : a ≤ n) (kl : Nat) (hkl : S 114 20 = nI kl) (kc : Nat) (hkc : S 114 22 = nI kc) (kf : Nat) (hkf : S 114 25 = nI kf) (hh : Nat) (hhh : S 114 18 = nI hh) (hh5 : hh ≤ 5) (k : Int32) (g1 : k = nI 1 → kl < 4) (g2 : k = nI 2 → kc < 6 ∧ ¬ S 114 19 = 0) (g3 : k = nI 3 → kf < 5) : Con l C yX11_takeBody cX11_takeBody 2 (some .int) 8 [.ref (C.2.1 114), .int k] S (some (.int (bodV S n a kl kc kf hh k))) (bodS S n a kl kc kf hh k) := by
  refine con_of RX11 0 [some (.ref (C.2.1 114)), some (.int k)] (by decide) rfl hC (Nat.le_of_ble_eq_true rfl) rfl (Nat.le_of_ble_eq_true rfl) (fun E hE hR => ?_)
  refine j_iload1 hE dX11_takeBody_0 ?_
  rcases sw_4 (k) with cs | cs | cs | cs | cs
  · refine j_tabC hE 32 0 dX11_takeBody_1 cs (by decide) (by decide) rfl (by decide) ?_
    subst cs
    refine j_aload0 hE dX11_takeBody_32 ?_
    refine j_V0i hE mX11_162 (c_X11_takeWall l C hC _ n hn hn240 a ha han) dX11_takeBody_33 (by first | assumption | rfl) (by decide) (Nat.le_of_ble_eq_true rfl) ?_
    exact j_iret hE hR dX11_takeBody_36 (by rw [bodV, if_pos rfl]) (by rw [bodS, if_pos rfl])
  · refine j_tabC hE 37 1 dX11_takeBody_1 cs (by decide) (by decide) rfl (by decide) ?_
    subst cs
    refine j_aload0 hE dX11_takeBody_37 ?_
    refine j_V0i hE mX11_165 (c_X11_takeLeak l C hC _ n hn hn240 a ha han kl hkl (g1 rfl)) dX11_takeBody_38 (by first | assumption | rfl) (by decide) (Nat.le_of_ble_eq_true rfl) ?_
    exact j_iret hE hR dX11_takeBody_41 (by rw [bodV, if_neg n10, if_pos rfl]) (by rw [bodS, if_neg n10, if_pos rfl])
  · refine j_tabC hE 42 2 dX11_takeBody_1 cs (by decide) (by decide) rfl (by decide) ?_
    subst cs
    refine j_aload0 hE dX11_takeBody_42 ?_
    refine j_V0i hE mX11_168 (c_X11_takeCrack l C hC _ n hn hn240 a ha han kc hkc (g2 rfl).1 (g2 rfl).2) dX11_takeBody_43 (by first | assumption | rfl) (by decide) (Nat.le_of_ble_eq_true rfl) ?_
    exact j_iret hE hR dX11_takeBody_46 (by rw [bodV, if_neg n20, if_neg n21, if_pos rfl]) (by rw [bodS, if_neg n20, if_neg n21, if_pos rfl])
  · refine j_tabC hE 47 3 dX11_takeBody_1 cs (by decide) (by decide) rfl (by decide) ?_
    subst cs
    refine j_aload0 hE dX11_takeBody_47 ?_
    refine j_V0i hE mX11_171 (c_X11_takeLike l C hC _ n hn hn240 a ha han kf hkf (g3 rfl) hh hhh hh5) dX11_takeBody_48 (by first | assumption | rfl) (by decide) (Nat.le_of_ble_eq_true rfl) ?_
    exact j_iret hE hR dX11_takeBody_51 (by rw [bodV, if_neg n30, if_neg n31, if_neg n32, if_pos rfl]) (by rw [bodS, if_neg n30, if_neg n31, if_neg n32, if_pos rfl])
  · refine j_tabOut hE 52 dX11_takeBody_1 (sw_out cs) (by decide) ?_
    refine j_aload0 hE dX11_takeBody_52 ?_
    refine j_V0i hE mX11_174 (c_X11_takeWind l C hC _ n hn hn240 a ha han) dX11_takeBody_53 (by first | assumption | rfl) (by decide) (Nat.le_of_ble_eq_true rfl) ?_
    exact j_iret hE hR dX11_takeBody_56 (by rw [bodV, if_neg (sw4_n cs).1, if_neg (sw4_n cs).2.1, if_neg (sw4_n cs).2.2.1, if_neg (sw4_n cs).2.2.2]) (by rw [bodS, if_neg (sw4_n cs).1, if_neg (sw4_n cs).2.1, if_neg (sw4_n cs).2.2.1, if_neg (sw4_n cs).2.2.2])

theorem mtlG_pos {n k : Nat} (hn : n ≤ 240) : ∀ (m i : Nat) (U : Sto) (f : Int32) (b : Nat), U 114 13 = nI n → U 114 15 = nI b → b ≤ n → (mtlG n k m i U f).2 114 13 = nI n ∧ ∃ c, c ≤ n ∧ (mtlG n k m i U f).2 114 15 = nI c
  | 0, i, U, f, b, h1, h2, h3 => ⟨h1, b, h3, h2⟩
  | m + 1, i, U, f, b, h1, h2, h3 => by
    have hAt : atN U = b := by unfold atN; rw [h2, nI_clamp (by omega)]
    unfold mtlG
    split
    · split
      · refine ⟨?_, skp (U 120) n (atN U), by rw [hAt]; exact skp_le h3, ?_⟩
        · show up2 (up2 U 114 15 (nI (skp (U 120) n (atN U)))) 114 14 (nI (skp (U 120) n (atN U))) 114 13 = nI n
          rw [up114b (by decide), up114b (by decide)]
          exact h1
        · show up2 (up2 U 114 15 (nI (skp (U 120) n (atN U)))) 114 14 (nI (skp (U 120) n (atN U))) 114 15 = _
          rw [up114b (by decide), up2_same, pk_us]
      · next hc =>
        have hok : ¬ i = 0 → cur (U 120) n (skp (U 120) n (atN U)) = nI 44 := fun z => Classical.byContradiction (fun y => hc ⟨z, y⟩)
        exact mtlG_pos hn m (i + 1) _ _ _ (by rw [mtlZ_k (by omega)]; exact h1) mtlZ_15 (mtnA_le (mtlQ_le h2 h3 hn hok))
    · exact ⟨h1, b, h3, h2⟩
theorem bod_pos {S : Sto} {n a kl kc kf hh : Nat} {k : Int32} (hn : S 114 13 = nI n) (hn240 : n ≤ 240) (ha : S 114 15 = nI a) (han : a ≤ n) : bodS S n a kl kc kf hh k 114 13 = nI n ∧ ∃ b, b ≤ n ∧ bodS S n a kl kc kf hh k 114 15 = nI b := by
  unfold bodS
  split
  · unfold mtwS mtwT
    split
    · exact ⟨by rw [up114b (by decide), mtnS_k (by omega), mtwA_13]; exact hn, _, mtnA_le (mtnA_le han), by rw [up114b (by decide), mtnS_15]⟩
    · exact ⟨by rw [up114b (by decide), mtwA_13]; exact hn, _, mtnA_le han, by rw [up114b (by decide), mtwA_15]⟩
  · split
    · unfold mtlS
      exact ⟨by rw [up2_ne _ _ _ (by decide), mtnS_k (by omega), mtlW, up114b (by decide)]; exact hn, _, mtnA_le han, by rw [up2_ne _ _ _ (by decide), mtnS_15]⟩
    · split
      · have hA : mtnA S n a ≤ n := mtnA_le han
        have e13 : mcB S n a kc 114 13 = nI n := by rw [mcB_k (by omega)]; exact hn
        have e15 : mcB S n a kc 114 15 = nI (mtnA (mcA S n a kc) n (mtnA S n a)) := by unfold mcB; rw [up2_ne _ _ _ (by decide), mtnS_15]
        unfold mcS
        split
        · split
          · split
            · exact ⟨by rw [up114b (by decide)]; exact e13, _, mtnA_le hA, by rw [up114b (by decide)]; exact e15⟩
            · exact ⟨by rw [up114b (by decide)]; exact e13, _, mtnA_le hA, by rw [up114b (by decide)]; exact e15⟩
          · exact ⟨e13, _, mtnA_le hA, e15⟩
        · exact ⟨by rw [mcA_k (by omega)]; exact hn, _, hA, mcA_15⟩
      · split
        · exact mtlG_pos hn240 hh 0 (mtlI S kf) (nI 0) a (by rw [mtlI, up2_ne _ _ _ (by decide), up114b (by decide)]; exact hn) (by rw [mtlI, up2_ne _ _ _ (by decide), up114b (by decide)]; exact ha) han
        · unfold mtdS
          exact ⟨by rw [up114b (by decide), mtnS_k (by omega), mtdW, up114b (by decide)]; exact hn, _, mtnA_le han, by rw [up114b (by decide), mtnS_15]⟩
/-! a clause -/
def isK (c : Int32) : Int32 := if c = nI 119 then nI 0 else if c = nI 108 then nI 1 else if c = nI 99 then nI 2 else if c = nI 102 then nI 3 else if c = nI 110 then nI 4 else -1
theorem isK_lt {t : Nat → Int32} {n s : Nat} (h : ¬ isK (cur t n s) < 0) : s < n := by
  rcases Nat.lt_or_ge s n with q | q
  · exact q
  · exfalso
    apply h
    unfold cur
    rw [if_neg (by omega)]
    decide
def mqC (S : Sto) (n a : Nat) : Int32 := cur (S 120) n (skp (S 120) n a)
def mq0 (S : Sto) (n a : Nat) : Sto := up2 S 114 15 (nI (skp (S 120) n a))
def mq1 (S : Sto) (n a : Nat) : Sto := up2 S 114 15 (nI (skp (S 120) n a + 1))
def mqF (S : Sto) (n a kl kc kf hh : Nat) : Int32 := bodV (mq1 S n a) n (skp (S 120) n a + 1) kl kc kf hh (isK (mqC S n a))
def mqT (S : Sto) (n a kl kc kf hh : Nat) : Sto := bodS (mq1 S n a) n (skp (S 120) n a + 1) kl kc kf hh (isK (mqC S n a))
def mqE (S : Sto) (n a kl kc kf hh : Nat) : Nat := skp (mqT S n a kl kc kf hh 120) n (atN (mqT S n a kl kc kf hh))
abbrev mqB1 (S : Sto) (n a : Nat) : Prop := isK (mqC S n a) < 0 ∨ (¬ isK (mqC S n a) ≤ 0 ∧ S 114 18 = 0)
abbrev mqB3 (S : Sto) (n a kl kc kf hh : Nat) : Prop := mqF S n a kl kc kf hh = 0 ∧ ¬ cur (mqT S n a kl kc kf hh 120) n (mqE S n a kl kc kf hh) = nI 59
def mqV (S : Sto) (n a kl kc kf hh : Nat) : Int32 := if mqB1 S n a then nI 1 else if ¬ mfullV S (isK (mqC S n a)) = 0 then nI 3 else if mqB3 S n a kl kc kf hh then nI 1 else mqF S n a kl kc kf hh
def mqS (S : Sto) (n a kl kc kf hh : Nat) : Sto := if mqB1 S n a then up2 (mq0 S n a) 114 14 (nI (skp (S 120) n a)) else if ¬ mfullV S (isK (mqC S n a)) = 0 then up2 (mq0 S n a) 114 14 (nI (skp (S 120) n a)) else if mqB3 S n a kl kc kf hh then up2 (up2 (mqT S n a kl kc kf hh) 114 15 (nI (mqE S n a kl kc kf hh))) 114 14 (nI (mqE S n a kl kc kf hh)) else if mqF S n a kl kc kf hh = 0 then up2 (mqT S n a kl kc kf hh) 114 15 (nI (mqE S n a kl kc kf hh + 1)) else up2 (mqT S n a kl kc kf hh) 114 15 (mqT S n a kl kc kf hh 114 15 + nI 1)
theorem mfull_c {S T : Sto} {k : Int32} (h : ∀ j, 17 < j → T 114 j = S 114 j) : mfullV T k = mfullV S k := by
  unfold mfullV
  rw [h 18 (by decide), h 20 (by decide), h 22 (by decide), h 25 (by decide), h 27 (by decide)]
set_option maxHeartbeats 4000000 in
set_option maxRecDepth 100000 in
theorem c_X11_takeClause (l : Launch) (C : JC) (hC : JInj C) (S : Sto) (n : Nat) (hn : S 114 13 = nI n) (hn240 : n ≤ 240) (a : Nat) (ha : S 114 15 = nI a) (han : a ≤ n) (kl : Nat) (hkl : S 114 20 = nI kl) (kc : Nat) (hkc : S 114 22 = nI kc) (kf : Nat) (hkf : S 114 25 = nI kf) (hh : Nat) (hhh : S 114 18 = nI hh) (hh5 : hh ≤ 5) (l4 : kl ≤ 4) (l6 : kc ≤ 6) (l5 : kf ≤ 5) (hwn : S 114 27 = nI 0 ∨ S 114 27 = nI 1) (hwd : ¬ S 114 18 = 0 → ¬ S 114 19 = 0) : Con l C yX11_takeClause cX11_takeClause 4 (some .int) 10 [.ref (C.2.1 114)] S (some (.int (mqV S n a kl kc kf hh))) (mqS S n a kl kc kf hh) := by
  have e0 : ∀ j, 17 < j → mq0 S n a 114 j = S 114 j := fun j hj => up114b (by omega)
  have e1 : ∀ j, 15 < j → mq1 S n a 114 j = S 114 j := fun j hj => up114b (by omega)
  have e013 : mq0 S n a 114 13 = nI n := (up114b (by decide)).trans hn
  have e113 : mq1 S n a 114 13 = nI n := (up114b (by decide)).trans hn
  have e115 : mq1 S n a 114 15 = nI (skp (S 120) n a + 1) := by unfold mq1; rw [up2_same, pk_us]
  have e015 : mq0 S n a 114 15 = nI (skp (S 120) n a) := by unfold mq0; rw [up2_same, pk_us]
  refine con_of RX11 3 [some (.ref (C.2.1 114)), none, none, none] (by decide) rfl hC (Nat.le_of_ble_eq_true rfl) rfl (Nat.le_of_ble_eq_true rfl) (fun E hE hR => ?_)
  have K57 : ∀ (_u : Unit), J C E (mq0 S n a) 57 [some (.ref (C.2.1 114)), some (.int (mqC S n a)), some (.int (isK (mqC S n a))), none] [] := by
    intro _u 
    refine j_iload2 hE dX11_takeClause_57 ?_
    refine j_iflt hE 72 dX11_takeClause_58 (by decide) (fun c58 => ?_) (fun c58 => ?_)
    · skip
      have hbad : mqB1 S n a := Or.inl c58
      refine j_aload0 hE dX11_takeClause_72 ?_
      refine j_iconst hE (nI 1) dX11_takeClause_73 kiconst_1 ?_
      refine j_aload0 hE dX11_takeClause_74 ?_
      refine j_geti hE fX11_102 dX11_takeClause_75 (by first | assumption | rfl) ?_
      refine j_top (y := nI (skp (S 120) n a)) e015 ?_
      refine j_V2i hE mX11_112 (c_X11_fails l C hC _ _ _) dX11_takeClause_78 (by first | assumption | rfl) (by decide) (Nat.le_of_ble_eq_true rfl) ?_
      exact j_iret hE hR dX11_takeClause_81 (by rw [mqV, if_pos hbad]) (by rw [mqS, if_pos hbad]; first | done | rfl)
    · skip
      refine j_iload2 hE dX11_takeClause_61 ?_
      refine j_ifle hE 82 dX11_takeClause_62 (by decide) (fun c62 => ?_) (fun c62 => ?_)
      · skip
        have hb1 : ¬ mqB1 S n a := by
          intro z
          rcases z with z | z
          · exact c58 z
          · first | exact z.1 c62 | exact c69 z.2
        refine j_aload0 hE dX11_takeClause_82 ?_
        refine j_iload2 hE dX11_takeClause_83 ?_
        refine j_V1i hE mX11_177 (c_X11_isFull l C hC (mq0 S n a) _ (by rw [e0 27 (by decide)]; exact hwn)) dX11_takeClause_84 (by first | assumption | rfl) (by decide) (Nat.le_of_ble_eq_true rfl) ?_
        refine j_ifeq hE 100 dX11_takeClause_87 (by decide) (fun c87 => ?_) (fun c87 => ?_)
        · skip
          have c87 : mfullV S (isK (mqC S n a)) = 0 := by rw [← mfull_c e0]; exact c87
          have hnf : mfullV S (isK (mqC S n a)) = 0 := c87
          have hsn : skp (S 120) n a + 1 ≤ n := isK_lt c58
          have g1 : isK (mqC S n a) = nI 1 → kl < 4 := fun z => by
            rw [z, mfullV, if_neg n10, if_pos rfl] at hnf
            rcases Nat.lt_or_ge kl 4 with q | q
            · exact q
            · exfalso
              rw [if_pos (by rw [hkl, show kl = 4 by omega])] at hnf
              exact absurd hnf (by decide)
          have g2 : isK (mqC S n a) = nI 2 → kc < 6 ∧ ¬ mq1 S n a 114 19 = 0 := fun z => by
            refine ⟨?_, ?_⟩
            · rw [z, mfullV, if_neg n20, if_neg n21, if_pos rfl] at hnf
              rcases Nat.lt_or_ge kc 6 with q | q
              · exact q
              · exfalso
                rw [if_pos (by rw [hkc, show kc = 6 by omega])] at hnf
                exact absurd hnf (by decide)
            · rw [e1 19 (by decide)]
              exact hwd (fun y => hb1 (Or.inr ⟨by rw [z]; decide, y⟩))
          have g3 : isK (mqC S n a) = nI 3 → kf < 5 := fun z => by
            rw [z, mfullV, if_neg n30, if_neg n31, if_neg n32, if_pos rfl] at hnf
            rcases Nat.lt_or_ge kf 5 with q | q
            · exact q
            · exfalso
              rw [if_pos (by rw [hkf, show kf = 5 by omega])] at hnf
              exact absurd hnf (by decide)
          have hp := bod_pos (kl := kl) (kc := kc) (kf := kf) (hh := hh) (k := isK (mqC S n a)) e113 hn240 e115 hsn
          obtain ⟨b, hb1n, hb2⟩ := hp.2
          have hAt : atN (mqT S n a kl kc kf hh) = b := by unfold atN mqT; rw [hb2, nI_clamp (by omega)]
          refine j_aload0 hE dX11_takeClause_100 ?_
          refine j_dup hE dX11_takeClause_101 rfl ?_
          refine j_geti hE fX11_102 dX11_takeClause_102 (by first | assumption | rfl) ?_
          refine j_iconst hE (nI 1) dX11_takeClause_105 kiconst_1 ?_
          refine j_iadd hE dX11_takeClause_106 ?_
          refine j_puti hE pX11_102 dX11_takeClause_107 (by first | assumption | rfl) rfl rfl ?_
          refine j_eqS (S' := mq1 S n a) (by rw [e015, nI_add]; exact up2_tw) ?_
          refine j_aload0 hE dX11_takeClause_110 ?_
          refine j_iload2 hE dX11_takeClause_111 ?_
          refine j_V1i hE mX11_181 (c_X11_takeBody l C hC (mq1 S n a) n e113 hn240 (skp (S 120) n a + 1) e115 hsn kl (by rw [e1 20 (by decide)]; exact hkl) kc (by rw [e1 22 (by decide)]; exact hkc) kf (by rw [e1 25 (by decide)]; exact hkf) hh (by rw [e1 18 (by decide)]; exact hhh) hh5 _ g1 g2 g3) dX11_takeClause_112 (by first | assumption | rfl) (by decide) (Nat.le_of_ble_eq_true rfl) ?_
          refine j_istore3 hE dX11_takeClause_115 rfl ?_
          refine j_iload3 hE dX11_takeClause_116 ?_
          refine j_ifne hE 139 dX11_takeClause_117 (by decide) (fun c117 => ?_) (fun c117 => ?_)
          · skip
            have c117 : ¬ mqF S n a kl kc kf hh = 0 := c117
            refine j_aload0 hE dX11_takeClause_139 ?_
            refine j_dup hE dX11_takeClause_140 rfl ?_
            refine j_geti hE fX11_102 dX11_takeClause_141 (by first | assumption | rfl) ?_
            refine j_iconst hE (nI 1) dX11_takeClause_144 kiconst_1 ?_
            refine j_iadd hE dX11_takeClause_145 ?_
            refine j_puti hE pX11_102 dX11_takeClause_146 (by first | assumption | rfl) rfl rfl ?_
            refine j_iload3 hE dX11_takeClause_149 ?_
            exact j_iret hE hR dX11_takeClause_150 (by first | (rw [mqV, if_neg hb1, if_neg (fun z => z hnf), if_neg (fun z => c117 z.1)]; first | done | rfl) | (rw [mqV, if_neg hb1, if_neg (fun z => z hnf), if_neg (fun z => z.2 (by rw [mqE, hAt]; exact c126))]; first | done | rfl)) (by first | (rw [mqS, if_neg hb1, if_neg (fun z => z hnf), if_neg (fun z => c117 z.1), if_neg c117]; first | done | rfl) | (rw [mqS, if_neg hb1, if_neg (fun z => z hnf), if_neg (fun z => z.2 (by rw [mqE, hAt]; exact c126)), if_pos c117, mqE, hAt, up2_same, pk_us, nI_add, up2_tw]; first | done | rfl))
          · skip
            have c117 : mqF S n a kl kc kf hh = 0 := c117
            refine j_aload0 hE dX11_takeClause_120 ?_
            refine j_V0i hE mX11_105 (c_X11_here l C hC _ n hp.1 hn240 b hb2 hb1n) dX11_takeClause_121 (by first | assumption | rfl) (by decide) (Nat.le_of_ble_eq_true rfl) ?_
            refine j_bipush hE (nI 59) dX11_takeClause_124 kbipush_59 ?_
            refine j_icmpeq hE 139 dX11_takeClause_126 (by decide) (fun c126 => ?_) (fun c126 => ?_)
            · skip
              refine j_aload0 hE dX11_takeClause_139 ?_
              refine j_dup hE dX11_takeClause_140 rfl ?_
              refine j_geti hE fX11_102 dX11_takeClause_141 (by first | assumption | rfl) ?_
              refine j_iconst hE (nI 1) dX11_takeClause_144 kiconst_1 ?_
              refine j_iadd hE dX11_takeClause_145 ?_
              refine j_puti hE pX11_102 dX11_takeClause_146 (by first | assumption | rfl) rfl rfl ?_
              refine j_iload3 hE dX11_takeClause_149 ?_
              exact j_iret hE hR dX11_takeClause_150 (by first | (rw [mqV, if_neg hb1, if_neg (fun z => z hnf), if_neg (fun z => c117 z.1)]; first | done | rfl) | (rw [mqV, if_neg hb1, if_neg (fun z => z hnf), if_neg (fun z => z.2 (by rw [mqE, hAt]; exact c126))]; first | done | rfl)) (by first | (rw [mqS, if_neg hb1, if_neg (fun z => z hnf), if_neg (fun z => c117 z.1), if_neg c117]; first | done | rfl) | (rw [mqS, if_neg hb1, if_neg (fun z => z hnf), if_neg (fun z => z.2 (by rw [mqE, hAt]; exact c126)), if_pos c117, mqE, hAt, up2_same, pk_us, nI_add, up2_tw]; first | done | rfl))
            · skip
              refine j_aload0 hE dX11_takeClause_129 ?_
              refine j_iconst hE (nI 1) dX11_takeClause_130 kiconst_1 ?_
              refine j_aload0 hE dX11_takeClause_131 ?_
              refine j_geti hE fX11_102 dX11_takeClause_132 (by first | assumption | rfl) ?_
              refine j_V2i hE mX11_112 (c_X11_fails l C hC _ _ _) dX11_takeClause_135 (by first | assumption | rfl) (by decide) (Nat.le_of_ble_eq_true rfl) ?_
              exact j_iret hE hR dX11_takeClause_138 (by rw [mqV, if_neg hb1, if_neg (fun z => z hnf), if_pos ⟨c117, by rw [mqE, hAt]; exact c126⟩]) (by rw [mqS, if_neg hb1, if_neg (fun z => z hnf), if_pos ⟨c117, by rw [mqE, hAt]; exact c126⟩, mqE, hAt, up2_same, pk_us]; first | done | rfl)
        · skip
          have c87 : ¬ mfullV S (isK (mqC S n a)) = 0 := by rw [← mfull_c e0]; exact c87
          refine j_aload0 hE dX11_takeClause_90 ?_
          refine j_iconst hE (nI 3) dX11_takeClause_91 kiconst_3 ?_
          refine j_aload0 hE dX11_takeClause_92 ?_
          refine j_geti hE fX11_102 dX11_takeClause_93 (by first | assumption | rfl) ?_
          refine j_top (y := nI (skp (S 120) n a)) e015 ?_
          refine j_V2i hE mX11_112 (c_X11_fails l C hC _ _ _) dX11_takeClause_96 (by first | assumption | rfl) (by decide) (Nat.le_of_ble_eq_true rfl) ?_
          exact j_iret hE hR dX11_takeClause_99 (by rw [mqV, if_neg hb1, if_pos c87]) (by rw [mqS, if_neg hb1, if_pos c87]; first | done | rfl)
      · skip
        refine j_aload0 hE dX11_takeClause_65 ?_
        refine j_geti hE fX11_125 dX11_takeClause_66 (by first | assumption | rfl) ?_
        refine j_ifne hE 82 dX11_takeClause_69 (by decide) (fun c69 => ?_) (fun c69 => ?_)
        · skip
          have c69 : ¬ S 114 18 = 0 := by rw [← e0 18 (by decide)]; exact c69
          have hb1 : ¬ mqB1 S n a := by
            intro z
            rcases z with z | z
            · exact c58 z
            · first | exact z.1 c62 | exact c69 z.2
          refine j_aload0 hE dX11_takeClause_82 ?_
          refine j_iload2 hE dX11_takeClause_83 ?_
          refine j_V1i hE mX11_177 (c_X11_isFull l C hC (mq0 S n a) _ (by rw [e0 27 (by decide)]; exact hwn)) dX11_takeClause_84 (by first | assumption | rfl) (by decide) (Nat.le_of_ble_eq_true rfl) ?_
          refine j_ifeq hE 100 dX11_takeClause_87 (by decide) (fun c87 => ?_) (fun c87 => ?_)
          · skip
            have c87 : mfullV S (isK (mqC S n a)) = 0 := by rw [← mfull_c e0]; exact c87
            have hnf : mfullV S (isK (mqC S n a)) = 0 := c87
            have hsn : skp (S 120) n a + 1 ≤ n := isK_lt c58
            have g1 : isK (mqC S n a) = nI 1 → kl < 4 := fun z => by
              rw [z, mfullV, if_neg n10, if_pos rfl] at hnf
              rcases Nat.lt_or_ge kl 4 with q | q
              · exact q
              · exfalso
                rw [if_pos (by rw [hkl, show kl = 4 by omega])] at hnf
                exact absurd hnf (by decide)
            have g2 : isK (mqC S n a) = nI 2 → kc < 6 ∧ ¬ mq1 S n a 114 19 = 0 := fun z => by
              refine ⟨?_, ?_⟩
              · rw [z, mfullV, if_neg n20, if_neg n21, if_pos rfl] at hnf
                rcases Nat.lt_or_ge kc 6 with q | q
                · exact q
                · exfalso
                  rw [if_pos (by rw [hkc, show kc = 6 by omega])] at hnf
                  exact absurd hnf (by decide)
              · rw [e1 19 (by decide)]
                exact hwd (fun y => hb1 (Or.inr ⟨by rw [z]; decide, y⟩))
            have g3 : isK (mqC S n a) = nI 3 → kf < 5 := fun z => by
              rw [z, mfullV, if_neg n30, if_neg n31, if_neg n32, if_pos rfl] at hnf
              rcases Nat.lt_or_ge kf 5 with q | q
              · exact q
              · exfalso
                rw [if_pos (by rw [hkf, show kf = 5 by omega])] at hnf
                exact absurd hnf (by decide)
            have hp := bod_pos (kl := kl) (kc := kc) (kf := kf) (hh := hh) (k := isK (mqC S n a)) e113 hn240 e115 hsn
            obtain ⟨b, hb1n, hb2⟩ := hp.2
            have hAt : atN (mqT S n a kl kc kf hh) = b := by unfold atN mqT; rw [hb2, nI_clamp (by omega)]
            refine j_aload0 hE dX11_takeClause_100 ?_
            refine j_dup hE dX11_takeClause_101 rfl ?_
            refine j_geti hE fX11_102 dX11_takeClause_102 (by first | assumption | rfl) ?_
            refine j_iconst hE (nI 1) dX11_takeClause_105 kiconst_1 ?_
            refine j_iadd hE dX11_takeClause_106 ?_
            refine j_puti hE pX11_102 dX11_takeClause_107 (by first | assumption | rfl) rfl rfl ?_
            refine j_eqS (S' := mq1 S n a) (by rw [e015, nI_add]; exact up2_tw) ?_
            refine j_aload0 hE dX11_takeClause_110 ?_
            refine j_iload2 hE dX11_takeClause_111 ?_
            refine j_V1i hE mX11_181 (c_X11_takeBody l C hC (mq1 S n a) n e113 hn240 (skp (S 120) n a + 1) e115 hsn kl (by rw [e1 20 (by decide)]; exact hkl) kc (by rw [e1 22 (by decide)]; exact hkc) kf (by rw [e1 25 (by decide)]; exact hkf) hh (by rw [e1 18 (by decide)]; exact hhh) hh5 _ g1 g2 g3) dX11_takeClause_112 (by first | assumption | rfl) (by decide) (Nat.le_of_ble_eq_true rfl) ?_
            refine j_istore3 hE dX11_takeClause_115 rfl ?_
            refine j_iload3 hE dX11_takeClause_116 ?_
            refine j_ifne hE 139 dX11_takeClause_117 (by decide) (fun c117 => ?_) (fun c117 => ?_)
            · skip
              have c117 : ¬ mqF S n a kl kc kf hh = 0 := c117
              refine j_aload0 hE dX11_takeClause_139 ?_
              refine j_dup hE dX11_takeClause_140 rfl ?_
              refine j_geti hE fX11_102 dX11_takeClause_141 (by first | assumption | rfl) ?_
              refine j_iconst hE (nI 1) dX11_takeClause_144 kiconst_1 ?_
              refine j_iadd hE dX11_takeClause_145 ?_
              refine j_puti hE pX11_102 dX11_takeClause_146 (by first | assumption | rfl) rfl rfl ?_
              refine j_iload3 hE dX11_takeClause_149 ?_
              exact j_iret hE hR dX11_takeClause_150 (by first | (rw [mqV, if_neg hb1, if_neg (fun z => z hnf), if_neg (fun z => c117 z.1)]; first | done | rfl) | (rw [mqV, if_neg hb1, if_neg (fun z => z hnf), if_neg (fun z => z.2 (by rw [mqE, hAt]; exact c126))]; first | done | rfl)) (by first | (rw [mqS, if_neg hb1, if_neg (fun z => z hnf), if_neg (fun z => c117 z.1), if_neg c117]; first | done | rfl) | (rw [mqS, if_neg hb1, if_neg (fun z => z hnf), if_neg (fun z => z.2 (by rw [mqE, hAt]; exact c126)), if_pos c117, mqE, hAt, up2_same, pk_us, nI_add, up2_tw]; first | done | rfl))
            · skip
              have c117 : mqF S n a kl kc kf hh = 0 := c117
              refine j_aload0 hE dX11_takeClause_120 ?_
              refine j_V0i hE mX11_105 (c_X11_here l C hC _ n hp.1 hn240 b hb2 hb1n) dX11_takeClause_121 (by first | assumption | rfl) (by decide) (Nat.le_of_ble_eq_true rfl) ?_
              refine j_bipush hE (nI 59) dX11_takeClause_124 kbipush_59 ?_
              refine j_icmpeq hE 139 dX11_takeClause_126 (by decide) (fun c126 => ?_) (fun c126 => ?_)
              · skip
                refine j_aload0 hE dX11_takeClause_139 ?_
                refine j_dup hE dX11_takeClause_140 rfl ?_
                refine j_geti hE fX11_102 dX11_takeClause_141 (by first | assumption | rfl) ?_
                refine j_iconst hE (nI 1) dX11_takeClause_144 kiconst_1 ?_
                refine j_iadd hE dX11_takeClause_145 ?_
                refine j_puti hE pX11_102 dX11_takeClause_146 (by first | assumption | rfl) rfl rfl ?_
                refine j_iload3 hE dX11_takeClause_149 ?_
                exact j_iret hE hR dX11_takeClause_150 (by first | (rw [mqV, if_neg hb1, if_neg (fun z => z hnf), if_neg (fun z => c117 z.1)]; first | done | rfl) | (rw [mqV, if_neg hb1, if_neg (fun z => z hnf), if_neg (fun z => z.2 (by rw [mqE, hAt]; exact c126))]; first | done | rfl)) (by first | (rw [mqS, if_neg hb1, if_neg (fun z => z hnf), if_neg (fun z => c117 z.1), if_neg c117]; first | done | rfl) | (rw [mqS, if_neg hb1, if_neg (fun z => z hnf), if_neg (fun z => z.2 (by rw [mqE, hAt]; exact c126)), if_pos c117, mqE, hAt, up2_same, pk_us, nI_add, up2_tw]; first | done | rfl))
              · skip
                refine j_aload0 hE dX11_takeClause_129 ?_
                refine j_iconst hE (nI 1) dX11_takeClause_130 kiconst_1 ?_
                refine j_aload0 hE dX11_takeClause_131 ?_
                refine j_geti hE fX11_102 dX11_takeClause_132 (by first | assumption | rfl) ?_
                refine j_V2i hE mX11_112 (c_X11_fails l C hC _ _ _) dX11_takeClause_135 (by first | assumption | rfl) (by decide) (Nat.le_of_ble_eq_true rfl) ?_
                exact j_iret hE hR dX11_takeClause_138 (by rw [mqV, if_neg hb1, if_neg (fun z => z hnf), if_pos ⟨c117, by rw [mqE, hAt]; exact c126⟩]) (by rw [mqS, if_neg hb1, if_neg (fun z => z hnf), if_pos ⟨c117, by rw [mqE, hAt]; exact c126⟩, mqE, hAt, up2_same, pk_us]; first | done | rfl)
          · skip
            have c87 : ¬ mfullV S (isK (mqC S n a)) = 0 := by rw [← mfull_c e0]; exact c87
            refine j_aload0 hE dX11_takeClause_90 ?_
            refine j_iconst hE (nI 3) dX11_takeClause_91 kiconst_3 ?_
            refine j_aload0 hE dX11_takeClause_92 ?_
            refine j_geti hE fX11_102 dX11_takeClause_93 (by first | assumption | rfl) ?_
            refine j_top (y := nI (skp (S 120) n a)) e015 ?_
            refine j_V2i hE mX11_112 (c_X11_fails l C hC _ _ _) dX11_takeClause_96 (by first | assumption | rfl) (by decide) (Nat.le_of_ble_eq_true rfl) ?_
            exact j_iret hE hR dX11_takeClause_99 (by rw [mqV, if_neg hb1, if_pos c87]) (by rw [mqS, if_neg hb1, if_pos c87]; first | done | rfl)
        · skip
          have hbad : mqB1 S n a := Or.inr ⟨c62, by rw [← e0 18 (by decide)]; exact c69⟩
          refine j_aload0 hE dX11_takeClause_72 ?_
          refine j_iconst hE (nI 1) dX11_takeClause_73 kiconst_1 ?_
          refine j_aload0 hE dX11_takeClause_74 ?_
          refine j_geti hE fX11_102 dX11_takeClause_75 (by first | assumption | rfl) ?_
          refine j_top (y := nI (skp (S 120) n a)) e015 ?_
          refine j_V2i hE mX11_112 (c_X11_fails l C hC _ _ _) dX11_takeClause_78 (by first | assumption | rfl) (by decide) (Nat.le_of_ble_eq_true rfl) ?_
          exact j_iret hE hR dX11_takeClause_81 (by rw [mqV, if_pos hbad]) (by rw [mqS, if_pos hbad]; first | done | rfl)
  refine j_aload0 hE dX11_takeClause_0 ?_
  refine j_V0i hE mX11_105 (c_X11_here l C hC _ n hn hn240 a ha han) dX11_takeClause_1 (by first | assumption | rfl) (by decide) (Nat.le_of_ble_eq_true rfl) ?_
  refine j_istore1 hE dX11_takeClause_4 rfl ?_
  refine j_iload1 hE dX11_takeClause_5 ?_
  refine j_bipush hE (nI 119) dX11_takeClause_6 kbipush_119 ?_
  refine j_icmpne hE 15 dX11_takeClause_8 (by decide) (fun c8 => ?_) (fun c8 => ?_)
  · skip
    refine j_iload1 hE dX11_takeClause_15 ?_
    refine j_bipush hE (nI 108) dX11_takeClause_16 kbipush_108 ?_
    refine j_icmpne hE 25 dX11_takeClause_18 (by decide) (fun c18 => ?_) (fun c18 => ?_)
    · skip
      refine j_iload1 hE dX11_takeClause_25 ?_
      refine j_bipush hE (nI 99) dX11_takeClause_26 kbipush_99 ?_
      refine j_icmpne hE 35 dX11_takeClause_28 (by decide) (fun c28 => ?_) (fun c28 => ?_)
      · skip
        refine j_iload1 hE dX11_takeClause_35 ?_
        refine j_bipush hE (nI 102) dX11_takeClause_36 kbipush_102 ?_
        refine j_icmpne hE 45 dX11_takeClause_38 (by decide) (fun c38 => ?_) (fun c38 => ?_)
        · skip
          refine j_iload1 hE dX11_takeClause_45 ?_
          refine j_bipush hE (nI 110) dX11_takeClause_46 kbipush_110 ?_
          refine j_icmpne hE 55 dX11_takeClause_48 (by decide) (fun c48 => ?_) (fun c48 => ?_)
          · skip
            refine j_iconst hE (-1) dX11_takeClause_55 kiconst_m1 ?_
            refine j_top (y := isK (mqC S n a)) (by unfold isK mqC; first | (rw [if_pos c8]; done) | (rw [if_neg c8, if_pos c18]; done) | (rw [if_neg c8, if_neg c18, if_pos c28]; done) | (rw [if_neg c8, if_neg c18, if_neg c28, if_pos c38]; done) | (rw [if_neg c8, if_neg c18, if_neg c28, if_neg c38, if_pos c48]; done) | (rw [if_neg c8, if_neg c18, if_neg c28, if_neg c38, if_neg c48]; done)) ?_
            refine j_istore2 hE dX11_takeClause_56 rfl ?_
            exact K57 ()
          · skip
            refine j_iconst hE (nI 4) dX11_takeClause_51 kiconst_4 ?_
            refine j_goto hE 56 dX11_takeClause_52 (by decide) ?_
            refine j_top (y := isK (mqC S n a)) (by unfold isK mqC; first | (rw [if_pos c8]; done) | (rw [if_neg c8, if_pos c18]; done) | (rw [if_neg c8, if_neg c18, if_pos c28]; done) | (rw [if_neg c8, if_neg c18, if_neg c28, if_pos c38]; done) | (rw [if_neg c8, if_neg c18, if_neg c28, if_neg c38, if_pos c48]; done) | (rw [if_neg c8, if_neg c18, if_neg c28, if_neg c38, if_neg c48]; done)) ?_
            refine j_istore2 hE dX11_takeClause_56 rfl ?_
            exact K57 ()
        · skip
          refine j_iconst hE (nI 3) dX11_takeClause_41 kiconst_3 ?_
          refine j_goto hE 56 dX11_takeClause_42 (by decide) ?_
          refine j_top (y := isK (mqC S n a)) (by unfold isK mqC; first | (rw [if_pos c8]; done) | (rw [if_neg c8, if_pos c18]; done) | (rw [if_neg c8, if_neg c18, if_pos c28]; done) | (rw [if_neg c8, if_neg c18, if_neg c28, if_pos c38]; done) | (rw [if_neg c8, if_neg c18, if_neg c28, if_neg c38, if_pos c48]; done) | (rw [if_neg c8, if_neg c18, if_neg c28, if_neg c38, if_neg c48]; done)) ?_
          refine j_istore2 hE dX11_takeClause_56 rfl ?_
          exact K57 ()
      · skip
        refine j_iconst hE (nI 2) dX11_takeClause_31 kiconst_2 ?_
        refine j_goto hE 56 dX11_takeClause_32 (by decide) ?_
        refine j_top (y := isK (mqC S n a)) (by unfold isK mqC; first | (rw [if_pos c8]; done) | (rw [if_neg c8, if_pos c18]; done) | (rw [if_neg c8, if_neg c18, if_pos c28]; done) | (rw [if_neg c8, if_neg c18, if_neg c28, if_pos c38]; done) | (rw [if_neg c8, if_neg c18, if_neg c28, if_neg c38, if_pos c48]; done) | (rw [if_neg c8, if_neg c18, if_neg c28, if_neg c38, if_neg c48]; done)) ?_
        refine j_istore2 hE dX11_takeClause_56 rfl ?_
        exact K57 ()
    · skip
      refine j_iconst hE (nI 1) dX11_takeClause_21 kiconst_1 ?_
      refine j_goto hE 56 dX11_takeClause_22 (by decide) ?_
      refine j_top (y := isK (mqC S n a)) (by unfold isK mqC; first | (rw [if_pos c8]; done) | (rw [if_neg c8, if_pos c18]; done) | (rw [if_neg c8, if_neg c18, if_pos c28]; done) | (rw [if_neg c8, if_neg c18, if_neg c28, if_pos c38]; done) | (rw [if_neg c8, if_neg c18, if_neg c28, if_neg c38, if_pos c48]; done) | (rw [if_neg c8, if_neg c18, if_neg c28, if_neg c38, if_neg c48]; done)) ?_
      refine j_istore2 hE dX11_takeClause_56 rfl ?_
      exact K57 ()
  · skip
    refine j_iconst hE (nI 0) dX11_takeClause_11 kiconst_0 ?_
    refine j_goto hE 56 dX11_takeClause_12 (by decide) ?_
    refine j_top (y := isK (mqC S n a)) (by unfold isK mqC; first | (rw [if_pos c8]; done) | (rw [if_neg c8, if_pos c18]; done) | (rw [if_neg c8, if_neg c18, if_pos c28]; done) | (rw [if_neg c8, if_neg c18, if_neg c28, if_pos c38]; done) | (rw [if_neg c8, if_neg c18, if_neg c28, if_neg c38, if_pos c48]; done) | (rw [if_neg c8, if_neg c18, if_neg c28, if_neg c38, if_neg c48]; done)) ?_
    refine j_istore2 hE dX11_takeClause_56 rfl ?_
    exact K57 ()

