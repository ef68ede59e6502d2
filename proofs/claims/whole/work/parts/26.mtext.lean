set_option maxHeartbeats 4000000 in
set_option maxRecDepth 100000 in
theorem c_X11_leadTo (l : Launch) (C : JC) (hC : JInj C) (S : Sto) (hh ww nl nc : Nat) (h : MW S hh ww nl nc) (nf : Nat) (hnf : S 114 7 = nI nf) (hfl : nf ≤ 5) (hl0 : nl ≠ 0 → 0 < hh) (l0 f n r w : Int32) : Con l C yX11_leadTo cX11_leadTo 11 (some .int) 8 [.ref (C.2.1 114), .int l0, .int f, .int n, .int r, .int w] S (some (.int (if ¬ (isM (S 114 2) l0 ∧ isM (S 114 7) f) then -1000000001 else if ¬ (inP n.toInt64 (lN 1) 20 ∧ inP r.toInt64 (lN 0) 9 ∧ inP w.toInt64 (lN 0) (lN 1)) then -1000000002 else (if w = 0 then (mlbR S hh ww nl nc l0.toNatClampNeg f.toNatClampNeg r n.toNatClampNeg (hh * ww)).2.1 else (mlbR S hh ww nl nc l0.toNatClampNeg f.toNatClampNeg r n.toNatClampNeg (hh * ww)).2.2)))) (if ¬ (isM (S 114 2) l0 ∧ isM (S 114 7) f) then S else if ¬ (inP n.toInt64 (lN 1) 20 ∧ inP r.toInt64 (lN 0) 9 ∧ inP w.toInt64 (lN 0) (lN 1)) then S else mlbS S hh ww nl nc l0.toNatClampNeg f.toNatClampNeg r n.toNatClampNeg) := by
  refine con_of RX11 5 [some (.ref (C.2.1 114)), some (.int l0), some (.int f), some (.int n), some (.int r), some (.int w), none, none, none, none, none] (by decide) rfl hC (Nat.le_of_ble_eq_true rfl) rfl (Nat.le_of_ble_eq_true rfl) (fun E hE hR => ?_)
  refine j_aload0 hE dX11_leadTo_0 ?_
  refine j_iload1 hE dX11_leadTo_1 ?_
  refine j_V1i hE mX11_245 (c_X11_isLeak l C hC _ l0) dX11_leadTo_2 (by first | assumption | rfl) (by decide) (Nat.le_of_ble_eq_true rfl) ?_
  first | refine j_ifeqP hE 16 dX11_leadTo_5 (by decide) (fun c5 => ?_) (fun c5 => ?_) | refine j_ifeq hE 16 dX11_leadTo_5 (by decide) (fun c5 => ?_) (fun c5 => ?_)
  · skip
    refine j_ldc hE dX11_leadTo_16 kX11_244 ?_
    exact j_iret hE hR dX11_leadTo_18 (by first
        | (rw [if_pos (fun z => c5 z.1)]; first | done | rfl)
        | (rw [if_pos (fun z => c13 z.2)]; first | done | rfl)) (by first
        | (rw [if_pos (fun z => c5 z.1)]; first | done | rfl)
        | (rw [if_pos (fun z => c13 z.2)]; first | done | rfl))
  · skip
    refine j_aload0 hE dX11_leadTo_8 ?_
    refine j_iload2 hE dX11_leadTo_9 ?_
    refine j_V1i hE mX11_251 (c_X11_isLike l C hC _ f) dX11_leadTo_10 (by first | assumption | rfl) (by decide) (Nat.le_of_ble_eq_true rfl) ?_
    first | refine j_ifneP hE 19 dX11_leadTo_13 (by decide) (fun c13 => ?_) (fun c13 => ?_) | refine j_ifne hE 19 dX11_leadTo_13 (by decide) (fun c13 => ?_) (fun c13 => ?_)
    · skip
      refine j_iload3 hE dX11_leadTo_19 ?_
      refine j_i2l hE dX11_leadTo_20 ?_
      refine j_lconst hE (lN 1) dX11_leadTo_21 rfl ?_
      refine j_ldc2 hE dX11_leadTo_22 kX11_302 ?_
      refine j_S3i hE mX11_82 (c_X11_in l C hC _ _ _ _) dX11_leadTo_25 (by decide) (Nat.le_of_ble_eq_true rfl) ?_
      first | refine j_ifeqP hE 55 dX11_leadTo_28 (by decide) (fun c28 => ?_) (fun c28 => ?_) | refine j_ifeq hE 55 dX11_leadTo_28 (by decide) (fun c28 => ?_) (fun c28 => ?_)
      · skip
        refine j_ldc hE dX11_leadTo_55 kX11_97 ?_
        exact j_iret hE hR dX11_leadTo_57 (by first
            | (rw [if_neg (fun z => z ⟨c5, c13⟩), if_pos (fun z => c28 z.1)]; first | done | rfl)
            | (rw [if_neg (fun z => z ⟨c5, c13⟩), if_pos (fun z => c41 z.2.1)]; first | done | rfl)
            | (rw [if_neg (fun z => z ⟨c5, c13⟩), if_pos (fun z => c52 z.2.2)]; first | done | rfl)) (by first
            | (rw [if_neg (fun z => z ⟨c5, c13⟩), if_pos (fun z => c28 z.1)]; first | done | rfl)
            | (rw [if_neg (fun z => z ⟨c5, c13⟩), if_pos (fun z => c41 z.2.1)]; first | done | rfl)
            | (rw [if_neg (fun z => z ⟨c5, c13⟩), if_pos (fun z => c52 z.2.2)]; first | done | rfl))
      · skip
        refine j_iload4 hE dX11_leadTo_31 ?_
        refine j_i2l hE dX11_leadTo_33 ?_
        refine j_lconst hE (lN 0) dX11_leadTo_34 rfl ?_
        refine j_ldc2 hE dX11_leadTo_35 kX11_267 ?_
        refine j_S3i hE mX11_82 (c_X11_in l C hC _ _ _ _) dX11_leadTo_38 (by decide) (Nat.le_of_ble_eq_true rfl) ?_
        first | refine j_ifeqP hE 55 dX11_leadTo_41 (by decide) (fun c41 => ?_) (fun c41 => ?_) | refine j_ifeq hE 55 dX11_leadTo_41 (by decide) (fun c41 => ?_) (fun c41 => ?_)
        · skip
          refine j_ldc hE dX11_leadTo_55 kX11_97 ?_
          exact j_iret hE hR dX11_leadTo_57 (by first
              | (rw [if_neg (fun z => z ⟨c5, c13⟩), if_pos (fun z => c28 z.1)]; first | done | rfl)
              | (rw [if_neg (fun z => z ⟨c5, c13⟩), if_pos (fun z => c41 z.2.1)]; first | done | rfl)
              | (rw [if_neg (fun z => z ⟨c5, c13⟩), if_pos (fun z => c52 z.2.2)]; first | done | rfl)) (by first
              | (rw [if_neg (fun z => z ⟨c5, c13⟩), if_pos (fun z => c28 z.1)]; first | done | rfl)
              | (rw [if_neg (fun z => z ⟨c5, c13⟩), if_pos (fun z => c41 z.2.1)]; first | done | rfl)
              | (rw [if_neg (fun z => z ⟨c5, c13⟩), if_pos (fun z => c52 z.2.2)]; first | done | rfl))
        · skip
          refine j_iload5 hE dX11_leadTo_44 ?_
          refine j_i2l hE dX11_leadTo_46 ?_
          refine j_lconst hE (lN 0) dX11_leadTo_47 rfl ?_
          refine j_lconst hE (lN 1) dX11_leadTo_48 rfl ?_
          refine j_S3i hE mX11_82 (c_X11_in l C hC _ _ _ _) dX11_leadTo_49 (by decide) (Nat.le_of_ble_eq_true rfl) ?_
          first | refine j_ifneP hE 58 dX11_leadTo_52 (by decide) (fun c52 => ?_) (fun c52 => ?_) | refine j_ifne hE 58 dX11_leadTo_52 (by decide) (fun c52 => ?_) (fun c52 => ?_)
          · skip
            have hl4 := h.2.2.2.2.2.2.1
            have h25 := h.le
            obtain ⟨j, hj, rfl⟩ := isM_n (k := nl) (by omega) (by rw [← h.2.2.2.2.2.1]; exact c5)
            have h0 : 0 < hh := hl0 (by omega)
            obtain ⟨q, hq, rfl⟩ := isM_n (k := nf) (by omega) (by rw [← hnf]; exact c13)
            obtain ⟨k, hk1, hk2, rfl⟩ := in_n (a := 1) (b := 20) rfl rfl c28
            have hcl : ∀ x, mcl (mlbR S hh ww nl nc j q r k x).1 = nI (hh * ww) := fun x => by unfold mcl; rw [mlb_o (by omega)]; exact h.cl
            refine j_aload0 hE dX11_leadTo_58 ?_
            refine j_getr hE fX11_22 dX11_leadTo_59 (j := 119) (by first | assumption | rfl) (rfl) ?_
            refine j_bipush hE (nI 25) dX11_leadTo_62 kbipush_25 ?_
            refine j_iload1 hE dX11_leadTo_64 ?_
            refine j_iadd hE dX11_leadTo_65 ?_
            refine j_top (nI_add 25 j) ?_
            refine j_ialdN hE dX11_leadTo_66 (by first | assumption | rfl) (by omega) (by decide) ?_
            refine j_istore6 hE dX11_leadTo_67 rfl ?_
            refine j_iconst hE (-1) dX11_leadTo_69 kiconst_m1 ?_
            refine j_istore7 hE dX11_leadTo_70 rfl ?_
            refine j_iconst hE (-1) dX11_leadTo_72 kiconst_m1 ?_
            refine j_istore8 hE dX11_leadTo_73 rfl ?_
            refine j_iconst hE (nI 0) dX11_leadTo_75 kiconst_0 ?_
            refine j_istore9 hE dX11_leadTo_76 rfl ?_
            have L78 : ∀ (fu : Nat) (i : Nat) (x10 : Option Value), hh * ww - i < fu → (i ≤ hh * ww) → J C E (mlbR S hh ww nl nc j q r k i).1 78 [some (.ref (C.2.1 114)), some (.int (nI j)), some (.int (nI q)), some (.int (nI k)), some (.int r), some (.int w), some (.int (S 119 (25 + j))), some (.int (mlbR S hh ww nl nc j q r k i).2.1), some (.int (mlbR S hh ww nl nc j q r k i).2.2), some (.int (nI i)), x10] [] := by
              intro fu
              induction fu with
              | zero => intro i x10 hm; omega
              | succ fu ih =>
                intro i x10 hm hi
                refine j_iload9 hE dX11_leadTo_78 ?_
                refine j_aload0 hE dX11_leadTo_80 ?_
                refine j_V0i hE mX11_78 (c_X11_cells l C hC _) dX11_leadTo_81 (by first | assumption | rfl) (by decide) (Nat.le_of_ble_eq_true rfl) ?_
                refine j_icmpge hE 160 dX11_leadTo_84 (by decide) (fun c84 => ?_) (fun c84 => ?_)
                · skip
                  rw [hcl] at c84
                  have c84 := (nI_leI (by omega) (by omega)).mp c84
                  have hii : hh * ww = i := by omega
                  subst hii
                  refine j_aload0 hE dX11_leadTo_160 ?_
                  refine j_getr hE fX11_22 dX11_leadTo_161 (j := 119) (by first | assumption | rfl) (rfl) ?_
                  refine j_bipush hE (nI 25) dX11_leadTo_164 kbipush_25 ?_
                  refine j_iload1 hE dX11_leadTo_166 ?_
                  refine j_iadd hE dX11_leadTo_167 ?_
                  refine j_iload6 hE dX11_leadTo_168 ?_
                  refine j_top2 (nI_add 25 j) ?_
                  refine j_iastN hE dX11_leadTo_170 (by first | assumption | rfl) (by omega) (by decide) ?_
                  refine j_iload5 hE dX11_leadTo_171 ?_
                  refine j_ifne hE 181 dX11_leadTo_173 (by decide) (fun c173 => ?_) (fun c173 => ?_)
                  · skip
                    refine j_iload8 hE dX11_leadTo_181 ?_
                    exact j_iret hE hR dX11_leadTo_183 (by first
                        | (rw [if_neg (fun z => z ⟨c5, c13⟩), if_neg (fun z => z ⟨c28, c41, c52⟩), nI_clamp (by omega), nI_clamp (by omega), nI_clamp (by omega), if_pos c173]; first | done | rfl)
                        | (rw [if_neg (fun z => z ⟨c5, c13⟩), if_neg (fun z => z ⟨c28, c41, c52⟩), nI_clamp (by omega), nI_clamp (by omega), nI_clamp (by omega), if_neg c173]; first | done | rfl)) (by first
                        | (rw [if_neg (fun z => z ⟨c5, c13⟩), if_neg (fun z => z ⟨c28, c41, c52⟩), nI_clamp (by omega), nI_clamp (by omega), nI_clamp (by omega)]; first | done | rfl))
                  · skip
                    refine j_iload7 hE dX11_leadTo_176 ?_
                    refine j_goto hE 183 dX11_leadTo_178 (by decide) ?_
                    exact j_iret hE hR dX11_leadTo_183 (by first
                        | (rw [if_neg (fun z => z ⟨c5, c13⟩), if_neg (fun z => z ⟨c28, c41, c52⟩), nI_clamp (by omega), nI_clamp (by omega), nI_clamp (by omega), if_pos c173]; first | done | rfl)
                        | (rw [if_neg (fun z => z ⟨c5, c13⟩), if_neg (fun z => z ⟨c28, c41, c52⟩), nI_clamp (by omega), nI_clamp (by omega), nI_clamp (by omega), if_neg c173]; first | done | rfl)) (by first
                        | (rw [if_neg (fun z => z ⟨c5, c13⟩), if_neg (fun z => z ⟨c28, c41, c52⟩), nI_clamp (by omega), nI_clamp (by omega), nI_clamp (by omega)]; first | done | rfl))
                · skip
                  rw [hcl] at c84
                  have c84 : i < (hh * ww) := Nat.lt_of_not_le (fun q => c84 (nI_le q (by omega)))
                  refine j_aload0 hE dX11_leadTo_87 ?_
                  refine j_getr hE fX11_22 dX11_leadTo_88 (j := 119) (by first | assumption | rfl) (rfl) ?_
                  refine j_bipush hE (nI 25) dX11_leadTo_91 kbipush_25 ?_
                  refine j_iload1 hE dX11_leadTo_93 ?_
                  refine j_iadd hE dX11_leadTo_94 ?_
                  refine j_iload9 hE dX11_leadTo_95 ?_
                  refine j_top2 (nI_add 25 j) ?_
                  refine j_iastN hE dX11_leadTo_97 (by first | assumption | rfl) (by omega) (by decide) ?_
                  refine j_aload0 hE dX11_leadTo_98 ?_
                  refine j_V0i hE mX11_78 (c_X11_cells l C hC _) dX11_leadTo_99 (by first | assumption | rfl) (by decide) (Nat.le_of_ble_eq_true rfl) ?_
                  refine j_aload0 hE dX11_leadTo_102 ?_
                  refine j_iload3 hE dX11_leadTo_103 ?_
                  refine j_iload4 hE dX11_leadTo_104 ?_
                  refine j_V2i hE mX11_297 (c_X11_shownBy l C hC _ hh ww nl nc ((MW.lb h i (by omega)).upL (by omega)) h0 k (by omega) r) dX11_leadTo_106 (by first | assumption | rfl) (by decide) (Nat.le_of_ble_eq_true rfl) ?_
                  refine j_aload0 hE dX11_leadTo_109 ?_
                  refine j_getr hE fX11_19 dX11_leadTo_110 (j := 118) (by first | assumption | rfl) (rfl) ?_
                  refine j_iload2 hE dX11_leadTo_113 ?_
                  refine j_ialdN hE dX11_leadTo_114 (by first | assumption | rfl) (by omega) (by decide) ?_
                  refine j_ixor hE dX11_leadTo_115 ?_
                  refine j_S1i hE mX11_207 (c_X11_bits l C hC _ _) dX11_leadTo_116 (by decide) (Nat.le_of_ble_eq_true rfl) ?_
                  refine j_isub hE dX11_leadTo_119 ?_
                  refine j_top (y := mlbV S hh ww nl nc j q r k i) (by rw [show mcl (up2 (mlbR S hh ww nl nc j q r k i).1 119 (25 + j) (nI i)) = mcl S by unfold mcl; rw [up2_ne _ _ _ (by decide), mlb_o (by omega)], sb_o (by omega), up2_ne _ _ _ (by decide), mlb_o (by omega)]; rfl) ?_
                  refine j_istore_g (i := 10) hE dX11_leadTo_120 (Nat.le_of_ble_eq_true rfl) rfl ?_
                  refine j_iload_g (i := 10) hE dX11_leadTo_122 rfl ?_
                  refine j_iload8 hE dX11_leadTo_124 ?_
                  refine j_icmple hE 134 dX11_leadTo_126 (by decide) (fun c126 => ?_) (fun c126 => ?_)
                  · skip
                    refine j_iload7 hE dX11_leadTo_134 ?_
                    refine j_istore7 hE dX11_leadTo_136 rfl ?_
                    refine j_iload_g (i := 10) hE dX11_leadTo_138 rfl ?_
                    refine j_iload8 hE dX11_leadTo_140 ?_
                    refine j_icmple hE 150 dX11_leadTo_142 (by decide) (fun c142 => ?_) (fun c142 => ?_)
                    · skip
                      refine j_iload8 hE dX11_leadTo_150 ?_
                      refine j_istore8 hE dX11_leadTo_152 rfl ?_
                      refine j_iinc9 hE (nI (i + 1)) dX11_leadTo_154 (nI_inc _) rfl ?_
                      refine j_goto hE 78 dX11_leadTo_157 (by decide) ?_
                      exact j_cast rfl (by rw [mlbR_s]; first | (rw [if_pos c126, if_pos c126]; done) | (rw [if_pos c126, if_pos c126]; rfl) | (rw [if_neg c126, if_neg c126]; done) | (rw [if_neg c126, if_neg c126]; rfl)) (ih (i + 1) _ (by omega) (by omega))
                    · skip
                      exact absurd c126 c142
                  · skip
                    refine j_iload9 hE dX11_leadTo_129 ?_
                    refine j_goto hE 136 dX11_leadTo_131 (by decide) ?_
                    refine j_istore7 hE dX11_leadTo_136 rfl ?_
                    refine j_iload_g (i := 10) hE dX11_leadTo_138 rfl ?_
                    refine j_iload8 hE dX11_leadTo_140 ?_
                    refine j_icmple hE 150 dX11_leadTo_142 (by decide) (fun c142 => ?_) (fun c142 => ?_)
                    · skip
                      exact absurd c142 c126
                    · skip
                      refine j_iload_g (i := 10) hE dX11_leadTo_145 rfl ?_
                      refine j_goto hE 152 dX11_leadTo_147 (by decide) ?_
                      refine j_istore8 hE dX11_leadTo_152 rfl ?_
                      refine j_iinc9 hE (nI (i + 1)) dX11_leadTo_154 (nI_inc _) rfl ?_
                      refine j_goto hE 78 dX11_leadTo_157 (by decide) ?_
                      exact j_cast rfl (by rw [mlbR_s]; first | (rw [if_pos c126, if_pos c126]; done) | (rw [if_pos c126, if_pos c126]; rfl) | (rw [if_neg c126, if_neg c126]; done) | (rw [if_neg c126, if_neg c126]; rfl)) (ih (i + 1) _ (by omega) (by omega))
            exact L78 (hh * ww + 1) 0 none (by omega) (by omega)
          · skip
            refine j_ldc hE dX11_leadTo_55 kX11_97 ?_
            exact j_iret hE hR dX11_leadTo_57 (by first
                | (rw [if_neg (fun z => z ⟨c5, c13⟩), if_pos (fun z => c28 z.1)]; first | done | rfl)
                | (rw [if_neg (fun z => z ⟨c5, c13⟩), if_pos (fun z => c41 z.2.1)]; first | done | rfl)
                | (rw [if_neg (fun z => z ⟨c5, c13⟩), if_pos (fun z => c52 z.2.2)]; first | done | rfl)) (by first
                | (rw [if_neg (fun z => z ⟨c5, c13⟩), if_pos (fun z => c28 z.1)]; first | done | rfl)
                | (rw [if_neg (fun z => z ⟨c5, c13⟩), if_pos (fun z => c41 z.2.1)]; first | done | rfl)
                | (rw [if_neg (fun z => z ⟨c5, c13⟩), if_pos (fun z => c52 z.2.2)]; first | done | rfl))
    · skip
      refine j_ldc hE dX11_leadTo_16 kX11_244 ?_
      exact j_iret hE hR dX11_leadTo_18 (by first
          | (rw [if_pos (fun z => c5 z.1)]; first | done | rfl)
          | (rw [if_pos (fun z => c13 z.2)]; first | done | rfl)) (by first
          | (rw [if_pos (fun z => c5 z.1)]; first | done | rfl)
          | (rw [if_pos (fun z => c13 z.2)]; first | done | rfl))

theorem up2_id {S : Sto} {i k : Nat} {v : Int32} (h : S i k = v) : up2 S i k v = S := by
  funext j
  unfold up2 upA
  by_cases q : j = i
  · subst q
    rw [if_pos rfl]
    funext x
    unfold upd
    by_cases z : x = k
    · subst z; simp [h]
    · simp [z]
  · rw [if_neg q]
theorem up2_tw {S : Sto} {i k : Nat} {v w : Int32} : up2 (up2 S i k v) i k w = up2 S i k w := by
  unfold up2
  rw [upA_same, upA_upA, fa_uu]
theorem fg_in {x : Int32} : inP x.toInt64 48 57 ↔ isFg x := by
  unfold inP isFg
  rw [Int64.le_iff_toInt_le, Int64.le_iff_toInt_le, Int32.toInt_toInt64, Int32.lt_iff_toInt_lt, Int32.lt_iff_toInt_lt]
  have e1 : (48 : Int64).toInt = 48 := rfl
  have e2 : (57 : Int64).toInt = 57 := rfl
  have e3 : (nI 48).toInt = 48 := rfl
  have e4 : (nI 57).toInt = 57 := rfl
  rw [e1, e2, e3, e4]
  omega
set_option maxHeartbeats 4000000 in
set_option maxRecDepth 100000 in
theorem c_X11_feed (l : Launch) (C : JC) (hC : JInj C) (S : Sto) (n : Nat) (hn : S 114 13 = nI n) (hn240 : n ≤ 240) (x : Int32) : Con l C yX11_feed cX11_feed 2 (some .int) 3 [.ref (C.2.1 114), .int x] S (some (.int (if ¬ inP x.toInt64 (lN 0) 255 then -1000000002 else if n = 240 then -1000000004 else nI (n + 1)))) (if ¬ inP x.toInt64 (lN 0) 255 then S else if n = 240 then S else up2 (up2 S 120 n x) 114 13 (nI (n + 1))) := by
  refine con_of RX11 0 [some (.ref (C.2.1 114)), some (.int x)] (by decide) rfl hC (Nat.le_of_ble_eq_true rfl) rfl (Nat.le_of_ble_eq_true rfl) (fun E hE hR => ?_)
  refine j_iload1 hE dX11_feed_0 ?_
  refine j_i2l hE dX11_feed_1 ?_
  refine j_lconst hE (lN 0) dX11_feed_2 rfl ?_
  refine j_ldc2 hE dX11_feed_3 kX11_95 ?_
  refine j_S3i hE mX11_82 (c_X11_in l C hC _ _ _ _) dX11_feed_6 (by decide) (Nat.le_of_ble_eq_true rfl) ?_
  first | refine j_ifneP hE 15 dX11_feed_9 (by decide) (fun c9 => ?_) (fun c9 => ?_) | refine j_ifne hE 15 dX11_feed_9 (by decide) (fun c9 => ?_) (fun c9 => ?_)
  · skip
    refine j_aload0 hE dX11_feed_15 ?_
    refine j_geti hE fX11_98 dX11_feed_16 (by first | assumption | rfl) ?_
    refine j_sipush hE (nI 240) dX11_feed_19 ksipush_240 ?_
    refine j_icmpne hE 28 dX11_feed_22 (by decide) (fun c22 => ?_) (fun c22 => ?_)
    · skip
      rw [hn] at c22
      have c22 : ¬ n = 240 := fun z => c22 (by rw [z])
      refine j_aload0 hE dX11_feed_28 ?_
      refine j_getr hE fX11_25 dX11_feed_29 (j := 120) (by first | assumption | rfl) (rfl) ?_
      refine j_aload0 hE dX11_feed_32 ?_
      refine j_geti hE fX11_98 dX11_feed_33 (by first | assumption | rfl) ?_
      refine j_top (y := nI n) hn ?_
      refine j_iload1 hE dX11_feed_36 ?_
      refine j_iastN hE dX11_feed_37 (by first | assumption | rfl) (by omega) (by decide) ?_
      refine j_aload0 hE dX11_feed_38 ?_
      refine j_dup hE dX11_feed_39 rfl ?_
      refine j_geti hE fX11_98 dX11_feed_40 (by first | assumption | rfl) ?_
      refine j_iconst hE (nI 1) dX11_feed_43 kiconst_1 ?_
      refine j_iadd hE dX11_feed_44 ?_
      refine j_top (y := nI (n + 1)) (by rw [up2_ne _ _ _ (by decide), hn, nI_add]) ?_
      refine j_puti hE pX11_98 dX11_feed_45 (by first | assumption | rfl) rfl rfl ?_
      refine j_aload0 hE dX11_feed_48 ?_
      refine j_geti hE fX11_98 dX11_feed_49 (by first | assumption | rfl) ?_
      exact j_iret hE hR dX11_feed_52 (by rw [if_neg (fun z => z c9), if_neg c22, up2_same, pk_us]) (by rw [if_neg (fun z => z c9), if_neg c22])
    · skip
      rw [hn] at c22
      have c22 : n = 240 := (nI_eq (by omega) (by decide)).mp c22
      refine j_ldc hE dX11_feed_25 kX11_101 ?_
      exact j_iret hE hR dX11_feed_27 (by first
          | (rw [if_neg (fun z => z c9), if_pos c22]; first | done | rfl)) (by first
          | (rw [if_neg (fun z => z c9), if_pos c22]; first | done | rfl))
  · skip
    refine j_ldc hE dX11_feed_12 kX11_97 ?_
    exact j_iret hE hR dX11_feed_14 (by first
        | (rw [if_pos c9]; first | done | rfl)) (by first
        | (rw [if_pos c9]; first | done | rfl))

set_option maxHeartbeats 4000000 in
set_option maxRecDepth 100000 in
theorem c_X11_here (l : Launch) (C : JC) (hC : JInj C) (S : Sto) (n : Nat) (hn : S 114 13 = nI n) (hn240 : n ≤ 240) (a : Nat) (ha : S 114 15 = nI a) (han : a ≤ n)  : Con l C yX11_here cX11_here 1 (some .int) 1 [.ref (C.2.1 114)] S (some (.int (cur (S 120) n (skp (S 120) n a)))) (up2 S 114 15 (nI (skp (S 120) n a))) := by
  have e13 : ∀ v : Int32, up2 S 114 15 v 114 13 = nI n := fun v => by rw [up2_same, pk_un (by decide)]; exact hn
  have e15 : ∀ v : Int32, up2 S 114 15 v 114 15 = v := fun v => by rw [up2_same, pk_us]
  refine con_of RX11 0 [some (.ref (C.2.1 114))] (by decide) rfl hC (Nat.le_of_ble_eq_true rfl) rfl (Nat.le_of_ble_eq_true rfl) (fun E hE hR => ?_)
  have L0 : ∀ (fu : Nat) (p : Nat), n - p < fu → (p ≤ n) → (sk (S 120) n (n - p) p = skp (S 120) n a) → J C E (up2 S 114 15 (nI p)) 0 [some (.ref (C.2.1 114))] [] := by
    intro fu
    induction fu with
    | zero => intro p hm; omega
    | succ fu ih =>
      intro p hm hi hs
      refine j_aload0 hE dX11_here_0 ?_
      refine j_geti hE fX11_102 dX11_here_1 (by first | assumption | rfl) ?_
      refine j_aload0 hE dX11_here_4 ?_
      refine j_geti hE fX11_98 dX11_here_5 (by first | assumption | rfl) ?_
      refine j_icmpge hE 38 dX11_here_8 (by decide) (fun c8 => ?_) (fun c8 => ?_)
      · skip
        rw [e13, e15] at c8
        have c8 : n ≤ p := (nI_leI (by omega) (by omega)).mp c8
        have hs : p = skp (S 120) n a := by
          rw [← hs, show n - p = 0 by omega]
          rfl
        refine j_aload0 hE dX11_here_38 ?_
        refine j_geti hE fX11_102 dX11_here_39 (by first | assumption | rfl) ?_
        refine j_aload0 hE dX11_here_42 ?_
        refine j_geti hE fX11_98 dX11_here_43 (by first | assumption | rfl) ?_
        refine j_icmpge hE 61 dX11_here_46 (by decide) (fun c46 => ?_) (fun c46 => ?_)
        · skip
          rw [e13, e15] at c46
          have c46 : n ≤ p := (nI_leI (by omega) (by omega)).mp c46
          refine j_iconst hE (-1) dX11_here_61 kiconst_m1 ?_
          exact j_iret hE hR dX11_here_62 (by first | (rw [← hs, cur, if_neg (by omega)]; done) | (rw [← hs, cur, if_pos c46, up2_ne _ _ _ (by decide)]; done)) (by rw [← hs])
        · skip
          rw [e13, e15] at c46
          have c46 : p < n := Nat.lt_of_not_le (fun z => c46 (nI_le z (by omega)))
          refine j_aload0 hE dX11_here_49 ?_
          refine j_getr hE fX11_25 dX11_here_50 (j := 120) (by first | assumption | rfl) (rfl) ?_
          refine j_aload0 hE dX11_here_53 ?_
          refine j_geti hE fX11_102 dX11_here_54 (by first | assumption | rfl) ?_
          refine j_top (y := nI p) (e15 _) ?_
          refine j_ialdN hE dX11_here_57 (by first | assumption | rfl) (by omega) (by decide) ?_
          refine j_goto hE 62 dX11_here_58 (by decide) ?_
          exact j_iret hE hR dX11_here_62 (by first | (rw [← hs, cur, if_neg (by omega)]; done) | (rw [← hs, cur, if_pos c46, up2_ne _ _ _ (by decide)]; done)) (by rw [← hs])
      · skip
        rw [e13, e15] at c8
        have c8 : p < n := Nat.lt_of_not_le (fun z => c8 (nI_le z (by omega)))
        refine j_aload0 hE dX11_here_11 ?_
        refine j_getr hE fX11_25 dX11_here_12 (j := 120) (by first | assumption | rfl) (rfl) ?_
        refine j_aload0 hE dX11_here_15 ?_
        refine j_geti hE fX11_102 dX11_here_16 (by first | assumption | rfl) ?_
        refine j_top (y := nI p) (e15 _) ?_
        refine j_ialdN hE dX11_here_19 (by first | assumption | rfl) (by omega) (by decide) ?_
        refine j_bipush hE (nI 32) dX11_here_20 kbipush_32 ?_
        refine j_icmpne hE 38 dX11_here_22 (by decide) (fun c22 => ?_) (fun c22 => ?_)
        · skip
          rw [up2_ne _ _ _ (by decide)] at c22
          have hs : p = skp (S 120) n a := by
            rw [← hs, show n - p = n - (p + 1) + 1 by omega, sk, if_neg (fun z => c22 z.2)]
          refine j_aload0 hE dX11_here_38 ?_
          refine j_geti hE fX11_102 dX11_here_39 (by first | assumption | rfl) ?_
          refine j_aload0 hE dX11_here_42 ?_
          refine j_geti hE fX11_98 dX11_here_43 (by first | assumption | rfl) ?_
          refine j_icmpge hE 61 dX11_here_46 (by decide) (fun c46 => ?_) (fun c46 => ?_)
          · skip
            rw [e13, e15] at c46
            have c46 : n ≤ p := (nI_leI (by omega) (by omega)).mp c46
            refine j_iconst hE (-1) dX11_here_61 kiconst_m1 ?_
            exact j_iret hE hR dX11_here_62 (by first | (rw [← hs, cur, if_neg (by omega)]; done) | (rw [← hs, cur, if_pos c46, up2_ne _ _ _ (by decide)]; done)) (by rw [← hs])
          · skip
            rw [e13, e15] at c46
            have c46 : p < n := Nat.lt_of_not_le (fun z => c46 (nI_le z (by omega)))
            refine j_aload0 hE dX11_here_49 ?_
            refine j_getr hE fX11_25 dX11_here_50 (j := 120) (by first | assumption | rfl) (rfl) ?_
            refine j_aload0 hE dX11_here_53 ?_
            refine j_geti hE fX11_102 dX11_here_54 (by first | assumption | rfl) ?_
            refine j_top (y := nI p) (e15 _) ?_
            refine j_ialdN hE dX11_here_57 (by first | assumption | rfl) (by omega) (by decide) ?_
            refine j_goto hE 62 dX11_here_58 (by decide) ?_
            exact j_iret hE hR dX11_here_62 (by first | (rw [← hs, cur, if_neg (by omega)]; done) | (rw [← hs, cur, if_pos c46, up2_ne _ _ _ (by decide)]; done)) (by rw [← hs])
        · skip
          rw [up2_ne _ _ _ (by decide)] at c22
          refine j_aload0 hE dX11_here_25 ?_
          refine j_dup hE dX11_here_26 rfl ?_
          refine j_geti hE fX11_102 dX11_here_27 (by first | assumption | rfl) ?_
          refine j_iconst hE (nI 1) dX11_here_30 kiconst_1 ?_
          refine j_iadd hE dX11_here_31 ?_
          refine j_puti hE pX11_102 dX11_here_32 (by first | assumption | rfl) rfl rfl ?_
          refine j_goto hE 0 dX11_here_35 (by decide) ?_
          exact j_cast (by rw [e15, nI_add, up2_tw]) rfl (ih (p + 1) (by omega) (by omega) (by rw [← hs, show n - p = n - (p + 1) + 1 by omega, sk, if_pos ⟨c8, c22⟩]))
  exact j_cast (up2_id ha).symm rfl (L0 (n - a + 1) a (by omega) han rfl)

set_option maxHeartbeats 4000000 in
set_option maxRecDepth 100000 in
theorem c_X11_fails (l : Launch) (C : JC) (hC : JInj C) (S : Sto) (k w : Int32) : Con l C yX11_fails cX11_fails 3 (some .int) 1 [.ref (C.2.1 114), .int k, .int w] S (some (.int (k))) (up2 S 114 14 w) := by
  refine con_of RX11 0 [some (.ref (C.2.1 114)), some (.int k), some (.int w)] (by decide) rfl hC (Nat.le_of_ble_eq_true rfl) rfl (Nat.le_of_ble_eq_true rfl) (fun E hE hR => ?_)
  refine j_aload0 hE dX11_fails_0 ?_
  refine j_iload2 hE dX11_fails_1 ?_
  refine j_puti hE pX11_28 dX11_fails_2 (by first | assumption | rfl) rfl rfl ?_
  refine j_iload1 hE dX11_fails_5 ?_
  exact j_iret hE hR dX11_fails_6 (rfl) (rfl)

set_option maxHeartbeats 4000000 in
set_option maxRecDepth 100000 in
theorem c_X11_readCells (l : Launch) (C : JC) (hC : JInj C) (S : Sto)  : Con l C yX11_readCells cX11_readCells 1 (some .int) 1 [.ref (C.2.1 114)] S (some (.int (S 114 18 * S 114 19))) (S) := by
  refine con_of RX11 0 [some (.ref (C.2.1 114))] (by decide) rfl hC (Nat.le_of_ble_eq_true rfl) rfl (Nat.le_of_ble_eq_true rfl) (fun E hE hR => ?_)
  refine j_aload0 hE dX11_readCells_0 ?_
  refine j_geti hE fX11_125 dX11_readCells_1 (by first | assumption | rfl) ?_
  refine j_aload0 hE dX11_readCells_4 ?_
  refine j_geti hE fX11_128 dX11_readCells_5 (by first | assumption | rfl) ?_
  refine j_imul hE dX11_readCells_8 ?_
  exact j_iret hE hR dX11_readCells_9 (rfl) (rfl)

/-! a number -/
def mnum (t : Nat → Int32) (s : Nat) : Nat → Nat
  | 0 => 0
  | k + 1 => if mnum t s k ≤ 10000 then mnum t s k * 10 + min 9 ((t (s + k)).toNatClampNeg - 48) else mnum t s k
theorem mnum_b (t : Nat → Int32) (s : Nat) : ∀ k, mnum t s k ≤ 100009
  | 0 => Nat.zero_le _
  | k + 1 => by
    have := mnum_b t s k
    unfold mnum
    split <;> omega
def mtn (S : Sto) (s p v : Nat) : Sto := up2 (up2 (up2 S 114 17 (nI s)) 114 16 (nI v)) 114 15 (nI p)
theorem mtn_o {S : Sto} {s p v i : Nat} (h : i ≠ 114) : mtn S s p v i = S i := by
  unfold mtn
  rw [up2_ne _ _ _ h, up2_ne _ _ _ h, up2_ne _ _ _ h]
theorem mtn_k {S : Sto} {s p v k : Nat} (h : k < 15 ∨ 17 < k) : mtn S s p v 114 k = S 114 k := by
  unfold mtn
  rw [up2_same, pk_un (by omega), up2_same, pk_un (by omega), up2_same, pk_un (by omega)]
theorem mtn_15 {S : Sto} {s p v : Nat} : mtn S s p v 114 15 = nI p := by unfold mtn; rw [up2_same, pk_us]
theorem mtn_16 {S : Sto} {s p v : Nat} : mtn S s p v 114 16 = nI v := by unfold mtn; rw [up2_same, pk_un (by decide), up2_same, pk_us]
theorem mtn_17 {S : Sto} {s p v : Nat} : mtn S s p v 114 17 = nI s := by unfold mtn; rw [up2_same, pk_un (by decide), up2_same, pk_un (by decide), up2_same, pk_us]
theorem row114 {S T : Sto} (ho : ∀ i, i ≠ 114 → S i = T i) (hk : ∀ k, S 114 k = T 114 k) : S = T := by
  funext i
  by_cases h : i = 114
  · subst h; funext k; exact hk k
  · exact ho i h
theorem mtn_s {S : Sto} {s p v p' v' : Nat} : up2 (up2 (mtn S s p v) 114 16 (nI v')) 114 15 (nI p') = mtn S s p' v' := by
  refine row114 (fun i h => by rw [up2_ne _ _ _ h, up2_ne _ _ _ h, mtn_o h, mtn_o h]) (fun k => ?_)
  unfold mtn
  simp only [up2_same]
  unfold upd
  by_cases h1 : k = 15
  · simp [h1]
  · by_cases h2 : k = 16
    · simp [h2]
    · simp [h1, h2]
theorem mtn_b {S : Sto} {s : Nat} : up2 (up2 (up2 S 114 15 (nI s)) 114 17 (nI s)) 114 16 (nI 0) = mtn S s s 0 := by
  refine row114 (fun i h => by rw [up2_ne _ _ _ h, up2_ne _ _ _ h, up2_ne _ _ _ h, mtn_o h]) (fun k => ?_)
  unfold mtn
  simp only [up2_same]
  unfold upd
  by_cases h1 : k = 15
  · simp [h1]
  · by_cases h2 : k = 16
    · simp [h2]
    · by_cases h3 : k = 17
      · simp [h3]
      · simp [h1, h2, h3]
abbrev mBad (S : Sto) (n a : Nat) (lo hi : Int32) : Prop := nI 3 < nI (dge (S 120) n (skp (S 120) n a)) - nI (skp (S 120) n a) ∨ ¬ inP (nI (mnum (S 120) (skp (S 120) n a) (dge (S 120) n (skp (S 120) n a) - skp (S 120) n a))).toInt64 lo.toInt64 hi.toInt64
def mtnV (S : Sto) (n a : Nat) (lo hi : Int32) : Int32 := if isFg (cur (S 120) n (skp (S 120) n a)) then (if mBad S n a lo hi then nI 2 else nI 0) else nI 1
def mtnT (S : Sto) (n a : Nat) : Sto := mtn S (skp (S 120) n a) (dge (S 120) n (skp (S 120) n a)) (mnum (S 120) (skp (S 120) n a) (dge (S 120) n (skp (S 120) n a) - skp (S 120) n a))
def mtnS (S : Sto) (n a : Nat) (lo hi : Int32) : Sto := if isFg (cur (S 120) n (skp (S 120) n a)) then (if mBad S n a lo hi then up2 (mtnT S n a) 114 14 (nI (skp (S 120) n a)) else mtnT S n a) else up2 (up2 S 114 15 (nI (skp (S 120) n a))) 114 14 (nI (skp (S 120) n a))
theorem mnum_s {t : Nat → Int32} {s p : Nat} (hs : s ≤ p) (hf : isFg (t p)) (h : mnum t s (p - s) ≤ 10000) : nI 10 * nI (mnum t s (p - s)) + t p - nI 48 = nI (mnum t s (p + 1 - s)) := by
  rw [pk_mul, Nat.mul_comm, ← pk_mul, num_step hf, show p + 1 - s = p - s + 1 by omega, mnum, if_pos h, show s + (p - s) = p by omega]
theorem mnum_g {t : Nat → Int32} {s p : Nat} (hs : s ≤ p) (h : ¬ mnum t s (p - s) ≤ 10000) : nI (mnum t s (p - s)) = nI (mnum t s (p + 1 - s)) := by
  rw [show p + 1 - s = p - s + 1 by omega, mnum, if_neg h]
set_option maxHeartbeats 4000000 in
set_option maxRecDepth 100000 in
theorem c_X11_takeNumber (l : Launch) (C : JC) (hC : JInj C) (S : Sto) (n : Nat) (hn : S 114 13 = nI n) (hn240 : n ≤ 240) (a : Nat) (ha : S 114 15 = nI a) (han : a ≤ n) (lo hi : Int32) : Con l C yX11_takeNumber cX11_takeNumber 4 (some .int) 3 [.ref (C.2.1 114), .int lo, .int hi] S (some (.int (mtnV S n a lo hi))) (mtnS S n a lo hi) := by
  have e15 : ∀ v : Int32, up2 S 114 15 v 114 15 = v := fun v => by rw [up2_same, pk_us]
  have hske : skp (S 120) n a ≤ n := skp_le han
  refine con_of RX11 1 [some (.ref (C.2.1 114)), some (.int lo), some (.int hi), none] (by decide) rfl hC (Nat.le_of_ble_eq_true rfl) rfl (Nat.le_of_ble_eq_true rfl) (fun E hE hR => ?_)
  refine j_aload0 hE dX11_takeNumber_0 ?_
  refine j_V0i hE mX11_105 (c_X11_here l C hC _ n hn hn240 a ha han) dX11_takeNumber_1 (by first | assumption | rfl) (by decide) (Nat.le_of_ble_eq_true rfl) ?_
  refine j_istore3 hE dX11_takeNumber_4 rfl ?_
  refine j_iload3 hE dX11_takeNumber_5 ?_
  refine j_i2l hE dX11_takeNumber_6 ?_
  refine j_ldc2 hE dX11_takeNumber_7 kX11_108 ?_
  refine j_ldc2 hE dX11_takeNumber_10 kX11_110 ?_
  refine j_S3i hE mX11_82 (c_X11_in l C hC _ _ _ _) dX11_takeNumber_13 (by decide) (Nat.le_of_ble_eq_true rfl) ?_
  first | refine j_ifneP hE 29 dX11_takeNumber_16 (by decide) (fun c16 => ?_) (fun c16 => ?_) | refine j_ifne hE 29 dX11_takeNumber_16 (by decide) (fun c16 => ?_) (fun c16 => ?_)
  · skip
    rw [fg_in] at c16
    refine j_aload0 hE dX11_takeNumber_29 ?_
    refine j_aload0 hE dX11_takeNumber_30 ?_
    refine j_geti hE fX11_102 dX11_takeNumber_31 (by first | assumption | rfl) ?_
    refine j_top (y := nI (skp (S 120) n a)) (e15 _) ?_
    refine j_puti hE pX11_116 dX11_takeNumber_34 (by first | assumption | rfl) rfl rfl ?_
    refine j_aload0 hE dX11_takeNumber_37 ?_
    refine j_iconst hE (nI 0) dX11_takeNumber_38 kiconst_0 ?_
    refine j_puti hE pX11_119 dX11_takeNumber_39 (by first | assumption | rfl) rfl rfl ?_
    have L42 : ∀ (fu : Nat) (p : Nat), n - p < fu → (p ≤ n) → (skp (S 120) n a ≤ p) → (dgE (S 120) n (n - p) p = dge (S 120) n (skp (S 120) n a)) → J C E (mtn S (skp (S 120) n a) p (mnum (S 120) (skp (S 120) n a) (p - skp (S 120) n a))) 42 [some (.ref (C.2.1 114)), some (.int lo), some (.int hi), some (.int (cur (S 120) n (skp (S 120) n a)))] [] := by
      intro fu
      induction fu with
      | zero => intro p hm; omega
      | succ fu ih =>
        intro p hm hi hsp he
        refine j_aload0 hE dX11_takeNumber_42 ?_
        refine j_geti hE fX11_102 dX11_takeNumber_43 (by first | assumption | rfl) ?_
        refine j_aload0 hE dX11_takeNumber_46 ?_
        refine j_geti hE fX11_98 dX11_takeNumber_47 (by first | assumption | rfl) ?_
        refine j_icmpge hE 129 dX11_takeNumber_50 (by decide) (fun c50 => ?_) (fun c50 => ?_)
        · skip
          rw [mtn_k (by omega), mtn_15, hn] at c50
          have c50 : n ≤ p := (nI_leI (by omega) (by omega)).mp c50
          have hE2 : p = dge (S 120) n (skp (S 120) n a) := by
            rw [← he, show n - p = 0 by omega]
            rfl
          refine j_aload0 hE dX11_takeNumber_129 ?_
          refine j_geti hE fX11_102 dX11_takeNumber_130 (by first | assumption | rfl) ?_
          refine j_aload0 hE dX11_takeNumber_133 ?_
          refine j_geti hE fX11_116 dX11_takeNumber_134 (by first | assumption | rfl) ?_
          refine j_isub hE dX11_takeNumber_137 ?_
          refine j_iconst hE (nI 3) dX11_takeNumber_138 kiconst_3 ?_
          refine j_icmpgt hE 157 dX11_takeNumber_139 (by decide) (fun c139 => ?_) (fun c139 => ?_)
          · skip
            rw [mtn_15, mtn_17] at c139
            refine j_aload0 hE dX11_takeNumber_157 ?_
            refine j_iconst hE (nI 2) dX11_takeNumber_158 kiconst_2 ?_
            refine j_aload0 hE dX11_takeNumber_159 ?_
            refine j_geti hE fX11_116 dX11_takeNumber_160 (by first | assumption | rfl) ?_
            refine j_top (y := nI (skp (S 120) n a)) mtn_17 ?_
            refine j_V2i hE mX11_112 (c_X11_fails l C hC _ _ _) dX11_takeNumber_163 (by first | assumption | rfl) (by decide) (Nat.le_of_ble_eq_true rfl) ?_
            refine j_goto hE 170 dX11_takeNumber_166 (by decide) ?_
            exact j_iret hE hR dX11_takeNumber_170 (by first
                | (rw [mtnV, if_pos c16, if_pos (by rw [mBad, ← hE2]; exact Or.inl c139)]; done)
                | (rw [mtnV, if_pos c16, if_pos (by rw [mBad, ← hE2]; exact Or.inr c154)]; done)
                | (rw [mtnV, if_pos c16, if_neg (by rw [mBad, ← hE2]; exact fun z => z.elim c139 (fun y => y c154))]; done)) (by first
                | (rw [mtnS, mtnT, if_pos c16, if_pos (by rw [mBad, ← hE2]; exact Or.inl c139), ← hE2]; done)
                | (rw [mtnS, mtnT, if_pos c16, if_pos (by rw [mBad, ← hE2]; exact Or.inr c154), ← hE2]; done)
                | (rw [mtnS, mtnT, if_pos c16, if_neg (by rw [mBad, ← hE2]; exact fun z => z.elim c139 (fun y => y c154)), ← hE2]; done))
          · skip
            rw [mtn_15, mtn_17] at c139
            refine j_aload0 hE dX11_takeNumber_142 ?_
            refine j_geti hE fX11_119 dX11_takeNumber_143 (by first | assumption | rfl) ?_
            refine j_i2l hE dX11_takeNumber_146 ?_
            refine j_iload1 hE dX11_takeNumber_147 ?_
            refine j_i2l hE dX11_takeNumber_148 ?_
            refine j_iload2 hE dX11_takeNumber_149 ?_
            refine j_i2l hE dX11_takeNumber_150 ?_
            refine j_S3i hE mX11_82 (c_X11_in l C hC _ _ _ _) dX11_takeNumber_151 (by decide) (Nat.le_of_ble_eq_true rfl) ?_
            first | refine j_ifneP hE 169 dX11_takeNumber_154 (by decide) (fun c154 => ?_) (fun c154 => ?_) | refine j_ifne hE 169 dX11_takeNumber_154 (by decide) (fun c154 => ?_) (fun c154 => ?_)
            · skip
              rw [mtn_16] at c154
              refine j_iconst hE (nI 0) dX11_takeNumber_169 kiconst_0 ?_
              exact j_iret hE hR dX11_takeNumber_170 (by first
                  | (rw [mtnV, if_pos c16, if_pos (by rw [mBad, ← hE2]; exact Or.inl c139)]; done)
                  | (rw [mtnV, if_pos c16, if_pos (by rw [mBad, ← hE2]; exact Or.inr c154)]; done)
                  | (rw [mtnV, if_pos c16, if_neg (by rw [mBad, ← hE2]; exact fun z => z.elim c139 (fun y => y c154))]; done)) (by first
                  | (rw [mtnS, mtnT, if_pos c16, if_pos (by rw [mBad, ← hE2]; exact Or.inl c139), ← hE2]; done)
                  | (rw [mtnS, mtnT, if_pos c16, if_pos (by rw [mBad, ← hE2]; exact Or.inr c154), ← hE2]; done)
                  | (rw [mtnS, mtnT, if_pos c16, if_neg (by rw [mBad, ← hE2]; exact fun z => z.elim c139 (fun y => y c154)), ← hE2]; done))
            · skip
              rw [mtn_16] at c154
              refine j_aload0 hE dX11_takeNumber_157 ?_
              refine j_iconst hE (nI 2) dX11_takeNumber_158 kiconst_2 ?_
              refine j_aload0 hE dX11_takeNumber_159 ?_
              refine j_geti hE fX11_116 dX11_takeNumber_160 (by first | assumption | rfl) ?_
              refine j_top (y := nI (skp (S 120) n a)) mtn_17 ?_
              refine j_V2i hE mX11_112 (c_X11_fails l C hC _ _ _) dX11_takeNumber_163 (by first | assumption | rfl) (by decide) (Nat.le_of_ble_eq_true rfl) ?_
              refine j_goto hE 170 dX11_takeNumber_166 (by decide) ?_
              exact j_iret hE hR dX11_takeNumber_170 (by first
                  | (rw [mtnV, if_pos c16, if_pos (by rw [mBad, ← hE2]; exact Or.inl c139)]; done)
                  | (rw [mtnV, if_pos c16, if_pos (by rw [mBad, ← hE2]; exact Or.inr c154)]; done)
                  | (rw [mtnV, if_pos c16, if_neg (by rw [mBad, ← hE2]; exact fun z => z.elim c139 (fun y => y c154))]; done)) (by first
                  | (rw [mtnS, mtnT, if_pos c16, if_pos (by rw [mBad, ← hE2]; exact Or.inl c139), ← hE2]; done)
                  | (rw [mtnS, mtnT, if_pos c16, if_pos (by rw [mBad, ← hE2]; exact Or.inr c154), ← hE2]; done)
                  | (rw [mtnS, mtnT, if_pos c16, if_neg (by rw [mBad, ← hE2]; exact fun z => z.elim c139 (fun y => y c154)), ← hE2]; done))
        · skip
          rw [mtn_k (by omega), mtn_15, hn] at c50
          have c50 : p < n := Nat.lt_of_not_le (fun z => c50 (nI_le z (by omega)))
          refine j_aload0 hE dX11_takeNumber_53 ?_
          refine j_getr hE fX11_25 dX11_takeNumber_54 (j := 120) (by first | assumption | rfl) (rfl) ?_
          refine j_aload0 hE dX11_takeNumber_57 ?_
          refine j_geti hE fX11_102 dX11_takeNumber_58 (by first | assumption | rfl) ?_
          refine j_top (y := nI p) mtn_15 ?_
          refine j_ialdN hE dX11_takeNumber_61 (by first | assumption | rfl) (by omega) (by decide) ?_
          refine j_i2l hE dX11_takeNumber_62 ?_
          refine j_ldc2 hE dX11_takeNumber_63 kX11_108 ?_
          refine j_ldc2 hE dX11_takeNumber_66 kX11_110 ?_
          refine j_S3i hE mX11_82 (c_X11_in l C hC _ _ _ _) dX11_takeNumber_69 (by decide) (Nat.le_of_ble_eq_true rfl) ?_
          first | refine j_ifeqP hE 129 dX11_takeNumber_72 (by decide) (fun c72 => ?_) (fun c72 => ?_) | refine j_ifeq hE 129 dX11_takeNumber_72 (by decide) (fun c72 => ?_) (fun c72 => ?_)
          · skip
            rw [fg_in, mtn_o (by decide)] at c72
            have hE2 : p = dge (S 120) n (skp (S 120) n a) := by
              rw [← he, show n - p = n - (p + 1) + 1 by omega, dgE, if_neg (fun z => c72 z.2)]
            refine j_aload0 hE dX11_takeNumber_129 ?_
            refine j_geti hE fX11_102 dX11_takeNumber_130 (by first | assumption | rfl) ?_
            refine j_aload0 hE dX11_takeNumber_133 ?_
            refine j_geti hE fX11_116 dX11_takeNumber_134 (by first | assumption | rfl) ?_
            refine j_isub hE dX11_takeNumber_137 ?_
            refine j_iconst hE (nI 3) dX11_takeNumber_138 kiconst_3 ?_
            refine j_icmpgt hE 157 dX11_takeNumber_139 (by decide) (fun c139 => ?_) (fun c139 => ?_)
            · skip
              rw [mtn_15, mtn_17] at c139
              refine j_aload0 hE dX11_takeNumber_157 ?_
              refine j_iconst hE (nI 2) dX11_takeNumber_158 kiconst_2 ?_
              refine j_aload0 hE dX11_takeNumber_159 ?_
              refine j_geti hE fX11_116 dX11_takeNumber_160 (by first | assumption | rfl) ?_
              refine j_top (y := nI (skp (S 120) n a)) mtn_17 ?_
              refine j_V2i hE mX11_112 (c_X11_fails l C hC _ _ _) dX11_takeNumber_163 (by first | assumption | rfl) (by decide) (Nat.le_of_ble_eq_true rfl) ?_
              refine j_goto hE 170 dX11_takeNumber_166 (by decide) ?_
              exact j_iret hE hR dX11_takeNumber_170 (by first
                  | (rw [mtnV, if_pos c16, if_pos (by rw [mBad, ← hE2]; exact Or.inl c139)]; done)
                  | (rw [mtnV, if_pos c16, if_pos (by rw [mBad, ← hE2]; exact Or.inr c154)]; done)
                  | (rw [mtnV, if_pos c16, if_neg (by rw [mBad, ← hE2]; exact fun z => z.elim c139 (fun y => y c154))]; done)) (by first
                  | (rw [mtnS, mtnT, if_pos c16, if_pos (by rw [mBad, ← hE2]; exact Or.inl c139), ← hE2]; done)
                  | (rw [mtnS, mtnT, if_pos c16, if_pos (by rw [mBad, ← hE2]; exact Or.inr c154), ← hE2]; done)
                  | (rw [mtnS, mtnT, if_pos c16, if_neg (by rw [mBad, ← hE2]; exact fun z => z.elim c139 (fun y => y c154)), ← hE2]; done))
            · skip
              rw [mtn_15, mtn_17] at c139
              refine j_aload0 hE dX11_takeNumber_142 ?_
              refine j_geti hE fX11_119 dX11_takeNumber_143 (by first | assumption | rfl) ?_
              refine j_i2l hE dX11_takeNumber_146 ?_
              refine j_iload1 hE dX11_takeNumber_147 ?_
              refine j_i2l hE dX11_takeNumber_148 ?_
              refine j_iload2 hE dX11_takeNumber_149 ?_
              refine j_i2l hE dX11_takeNumber_150 ?_
              refine j_S3i hE mX11_82 (c_X11_in l C hC _ _ _ _) dX11_takeNumber_151 (by decide) (Nat.le_of_ble_eq_true rfl) ?_
              first | refine j_ifneP hE 169 dX11_takeNumber_154 (by decide) (fun c154 => ?_) (fun c154 => ?_) | refine j_ifne hE 169 dX11_takeNumber_154 (by decide) (fun c154 => ?_) (fun c154 => ?_)
              · skip
                rw [mtn_16] at c154
                refine j_iconst hE (nI 0) dX11_takeNumber_169 kiconst_0 ?_
                exact j_iret hE hR dX11_takeNumber_170 (by first
                    | (rw [mtnV, if_pos c16, if_pos (by rw [mBad, ← hE2]; exact Or.inl c139)]; done)
                    | (rw [mtnV, if_pos c16, if_pos (by rw [mBad, ← hE2]; exact Or.inr c154)]; done)
                    | (rw [mtnV, if_pos c16, if_neg (by rw [mBad, ← hE2]; exact fun z => z.elim c139 (fun y => y c154))]; done)) (by first
                    | (rw [mtnS, mtnT, if_pos c16, if_pos (by rw [mBad, ← hE2]; exact Or.inl c139), ← hE2]; done)
                    | (rw [mtnS, mtnT, if_pos c16, if_pos (by rw [mBad, ← hE2]; exact Or.inr c154), ← hE2]; done)
                    | (rw [mtnS, mtnT, if_pos c16, if_neg (by rw [mBad, ← hE2]; exact fun z => z.elim c139 (fun y => y c154)), ← hE2]; done))
              · skip
                rw [mtn_16] at c154
                refine j_aload0 hE dX11_takeNumber_157 ?_
                refine j_iconst hE (nI 2) dX11_takeNumber_158 kiconst_2 ?_
                refine j_aload0 hE dX11_takeNumber_159 ?_
                refine j_geti hE fX11_116 dX11_takeNumber_160 (by first | assumption | rfl) ?_
                refine j_top (y := nI (skp (S 120) n a)) mtn_17 ?_
                refine j_V2i hE mX11_112 (c_X11_fails l C hC _ _ _) dX11_takeNumber_163 (by first | assumption | rfl) (by decide) (Nat.le_of_ble_eq_true rfl) ?_
                refine j_goto hE 170 dX11_takeNumber_166 (by decide) ?_
                exact j_iret hE hR dX11_takeNumber_170 (by first
                    | (rw [mtnV, if_pos c16, if_pos (by rw [mBad, ← hE2]; exact Or.inl c139)]; done)
                    | (rw [mtnV, if_pos c16, if_pos (by rw [mBad, ← hE2]; exact Or.inr c154)]; done)
                    | (rw [mtnV, if_pos c16, if_neg (by rw [mBad, ← hE2]; exact fun z => z.elim c139 (fun y => y c154))]; done)) (by first
                    | (rw [mtnS, mtnT, if_pos c16, if_pos (by rw [mBad, ← hE2]; exact Or.inl c139), ← hE2]; done)
                    | (rw [mtnS, mtnT, if_pos c16, if_pos (by rw [mBad, ← hE2]; exact Or.inr c154), ← hE2]; done)
                    | (rw [mtnS, mtnT, if_pos c16, if_neg (by rw [mBad, ← hE2]; exact fun z => z.elim c139 (fun y => y c154)), ← hE2]; done))
          · skip
            rw [fg_in, mtn_o (by decide)] at c72
            refine j_aload0 hE dX11_takeNumber_75 ?_
            refine j_aload0 hE dX11_takeNumber_76 ?_
            refine j_geti hE fX11_119 dX11_takeNumber_77 (by first | assumption | rfl) ?_
            refine j_sipush hE (nI 10000) dX11_takeNumber_80 ksipush_10000 ?_
            refine j_icmple hE 93 dX11_takeNumber_83 (by decide) (fun c83 => ?_) (fun c83 => ?_)
            · skip
              rw [mtn_16] at c83
              have c83 : (mnum (S 120) (skp (S 120) n a) (p - skp (S 120) n a)) ≤ 10000 := (nI_leI (by have := mnum_b (S 120) (skp (S 120) n a) (p - skp (S 120) n a); omega) (by decide)).mp c83
              refine j_bipush hE (nI 10) dX11_takeNumber_93 kbipush_10 ?_
              refine j_aload0 hE dX11_takeNumber_95 ?_
              refine j_geti hE fX11_119 dX11_takeNumber_96 (by first | assumption | rfl) ?_
              refine j_imul hE dX11_takeNumber_99 ?_
              refine j_aload0 hE dX11_takeNumber_100 ?_
              refine j_getr hE fX11_25 dX11_takeNumber_101 (j := 120) (by first | assumption | rfl) (rfl) ?_
              refine j_aload0 hE dX11_takeNumber_104 ?_
              refine j_geti hE fX11_102 dX11_takeNumber_105 (by first | assumption | rfl) ?_
              refine j_top (y := nI p) mtn_15 ?_
              refine j_ialdN hE dX11_takeNumber_108 (by first | assumption | rfl) (by omega) (by decide) ?_
              refine j_iadd hE dX11_takeNumber_109 ?_
              refine j_bipush hE (nI 48) dX11_takeNumber_110 kbipush_48 ?_
              refine j_isub hE dX11_takeNumber_112 ?_
              refine j_top (y := nI (mnum (S 120) (skp (S 120) n a) (p + 1 - skp (S 120) n a))) (by rw [mtn_16, mtn_o (by decide)]; exact mnum_s hsp c72 c83) ?_
              refine j_puti hE pX11_119 dX11_takeNumber_113 (by first | assumption | rfl) rfl rfl ?_
              refine j_aload0 hE dX11_takeNumber_116 ?_
              refine j_dup hE dX11_takeNumber_117 rfl ?_
              refine j_geti hE fX11_102 dX11_takeNumber_118 (by first | assumption | rfl) ?_
              refine j_iconst hE (nI 1) dX11_takeNumber_121 kiconst_1 ?_
              refine j_iadd hE dX11_takeNumber_122 ?_
              refine j_top (y := nI (p + 1)) (by rw [up2_same, pk_un (by decide), mtn_15, nI_add]) ?_
              refine j_puti hE pX11_102 dX11_takeNumber_123 (by first | assumption | rfl) rfl rfl ?_
              refine j_goto hE 42 dX11_takeNumber_126 (by decide) ?_
              exact j_cast mtn_s rfl (ih (p + 1) (by omega) (by omega) (by omega) (by rw [← he, show n - p = n - (p + 1) + 1 by omega, dgE, if_pos ⟨c50, c72⟩]))
            · skip
              rw [mtn_16] at c83
              have c83 : ¬ (mnum (S 120) (skp (S 120) n a) (p - skp (S 120) n a)) ≤ 10000 := fun z => c83 (nI_le z (by decide))
              refine j_aload0 hE dX11_takeNumber_86 ?_
              refine j_geti hE fX11_119 dX11_takeNumber_87 (by first | assumption | rfl) ?_
              refine j_goto hE 113 dX11_takeNumber_90 (by decide) ?_
              refine j_top (y := nI (mnum (S 120) (skp (S 120) n a) (p + 1 - skp (S 120) n a))) (by rw [mtn_16]; exact mnum_g hsp c83) ?_
              refine j_puti hE pX11_119 dX11_takeNumber_113 (by first | assumption | rfl) rfl rfl ?_
              refine j_aload0 hE dX11_takeNumber_116 ?_
              refine j_dup hE dX11_takeNumber_117 rfl ?_
              refine j_geti hE fX11_102 dX11_takeNumber_118 (by first | assumption | rfl) ?_
              refine j_iconst hE (nI 1) dX11_takeNumber_121 kiconst_1 ?_
              refine j_iadd hE dX11_takeNumber_122 ?_
              refine j_top (y := nI (p + 1)) (by rw [up2_same, pk_un (by decide), mtn_15, nI_add]) ?_
              refine j_puti hE pX11_102 dX11_takeNumber_123 (by first | assumption | rfl) rfl rfl ?_
              refine j_goto hE 42 dX11_takeNumber_126 (by decide) ?_
              exact j_cast mtn_s rfl (ih (p + 1) (by omega) (by omega) (by omega) (by rw [← he, show n - p = n - (p + 1) + 1 by omega, dgE, if_pos ⟨c50, c72⟩]))
    exact j_cast (mtn_b.trans (by rw [Nat.sub_self]; rfl)) rfl (L42 (n - skp (S 120) n a + 1) (skp (S 120) n a) (by omega) hske (Nat.le_refl _) rfl)
  · skip
    rw [fg_in] at c16
    refine j_aload0 hE dX11_takeNumber_19 ?_
    refine j_iconst hE (nI 1) dX11_takeNumber_20 kiconst_1 ?_
    refine j_aload0 hE dX11_takeNumber_21 ?_
    refine j_geti hE fX11_102 dX11_takeNumber_22 (by first | assumption | rfl) ?_
    refine j_top (y := nI (skp (S 120) n a)) (e15 _) ?_
    refine j_V2i hE mX11_112 (c_X11_fails l C hC _ _ _) dX11_takeNumber_25 (by first | assumption | rfl) (by decide) (Nat.le_of_ble_eq_true rfl) ?_
    exact j_iret hE hR dX11_takeNumber_28 (by rw [mtnV, if_neg c16]) (by rw [mtnS, if_neg c16])

