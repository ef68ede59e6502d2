def mlbR (S : Sto) (hh ww nl nc j q : Nat) (r : Int32) (n : Nat) : Nat → Sto × Int32 × Int32
  | 0 => (S, -1, -1)
  | x + 1 =>
    let p := mlbR S hh ww nl nc j q r n x
    let U := up2 p.1 119 (25 + j) (nI x)
    let v := mcl S - bitsF (sbV U hh ww nl nc r n ^^^ S 118 q) 25
    (sbS U hh ww nl nc r n, if v ≤ p.2.2 then p.2.1 else nI x, if v ≤ p.2.2 then p.2.2 else v)
def mlbV (S : Sto) (hh ww nl nc j q : Nat) (r : Int32) (n x : Nat) : Int32 := mcl S - bitsF (sbV (up2 (mlbR S hh ww nl nc j q r n x).1 119 (25 + j) (nI x)) hh ww nl nc r n ^^^ S 118 q) 25
theorem mlbR_s {S : Sto} {hh ww nl nc j q : Nat} {r : Int32} {n x : Nat} : mlbR S hh ww nl nc j q r n (x + 1) = (sbS (up2 (mlbR S hh ww nl nc j q r n x).1 119 (25 + j) (nI x)) hh ww nl nc r n, if mlbV S hh ww nl nc j q r n x ≤ (mlbR S hh ww nl nc j q r n x).2.2 then (mlbR S hh ww nl nc j q r n x).2.1 else nI x, if mlbV S hh ww nl nc j q r n x ≤ (mlbR S hh ww nl nc j q r n x).2.2 then (mlbR S hh ww nl nc j q r n x).2.2 else mlbV S hh ww nl nc j q r n x) := rfl
theorem MW.lb {S : Sto} {hh ww nl nc j q : Nat} {r : Int32} {n : Nat} (h : MW S hh ww nl nc) : ∀ x, x ≤ 25 → MW (mlbR S hh ww nl nc j q r n x).1 hh ww nl nc
  | 0, _ => h
  | x + 1, hx => ((MW.lb h x (by omega)).upL (by omega)).sb
theorem mlb_o {S : Sto} {hh ww nl nc j q : Nat} {r : Int32} {n i : Nat} (h : i < 119 ∨ (119 < i ∧ i < 125) ∨ 129 < i) : ∀ x, (mlbR S hh ww nl nc j q r n x).1 i = S i
  | 0 => rfl
  | x + 1 => by
    unfold mlbR
    dsimp only
    rw [sb_o h, up2_ne _ _ _ (by omega), mlb_o h x]
def mlbS (S : Sto) (hh ww nl nc j q : Nat) (r : Int32) (n : Nat) : Sto := up2 (mlbR S hh ww nl nc j q r n (hh * ww)).1 119 (25 + j) (S 119 (25 + j))
def mdyP (S : Sto) (hh ww nl nc : Nat) : Nat → Bool := fun k => decide (wetF (mpsS (bfS S) hh ww nl nc (nI 0) k 119) (hh * ww) = 0)
def mdyS (S : Sto) (hh ww nl nc k : Nat) : Sto := bkS (mpsS (bfS S) hh ww nl nc (nI 0) k)
set_option maxHeartbeats 4000000 in
set_option maxRecDepth 100000 in
theorem c_X11_dryIn (l : Launch) (C : JC) (hC : JInj C) (S : Sto) (hh ww nl nc : Nat) (h : MW S hh ww nl nc)  : Con l C yX11_dryIn cX11_dryIn 3 (some .int) 7 [.ref (C.2.1 114)] S (some (.int (if hh = 0 then -1000000003 else (if fnd (mdyP S hh ww nl nc) 61 0 = 61 then -1 else nI (fnd (mdyP S hh ww nl nc) 61 0))))) (if hh = 0 then S else mdyS S hh ww nl nc (min (fnd (mdyP S hh ww nl nc) 61 0 + 1) 61)) := by
  refine con_of RX11 2 [some (.ref (C.2.1 114)), none, none] (by decide) rfl hC (Nat.le_of_ble_eq_true rfl) rfl (Nat.le_of_ble_eq_true rfl) (fun E hE hR => ?_)
  refine j_aload0 hE dX11_dryIn_0 ?_
  refine j_geti hE fX11_72 dX11_dryIn_1 (by first | assumption | rfl) ?_
  refine j_ifne hE 11 dX11_dryIn_4 (by decide) (fun c4 => ?_) (fun c4 => ?_)
  · skip
    have hh0 : 0 < hh := Nat.pos_of_ne_zero (fun z => c4 (by rw [h.1, z]; rfl))
    refine j_aload0 hE dX11_dryIn_11 ?_
    refine j_getr hE fX11_22 dX11_dryIn_12 (j := 119) (by first | assumption | rfl) (rfl) ?_
    refine j_aload0 hE dX11_dryIn_15 ?_
    refine j_getr hE fX11_56 dX11_dryIn_16 (j := 129) (by first | assumption | rfl) (rfl) ?_
    refine j_bipush hE (nI 34) dX11_dryIn_19 kbipush_34 ?_
    refine j_S3v hE mX11_188 (c_X11_copyRow l C hC _ 119 129 34 34 34 rfl rfl (by decide) (by decide) (by decide) (by decide) (by decide)) dX11_dryIn_21 (by decide) (Nat.le_of_ble_eq_true rfl) ?_
    refine j_iconst hE (-1) dX11_dryIn_24 kiconst_m1 ?_
    refine j_istore1 hE dX11_dryIn_25 rfl ?_
    refine j_iconst hE (nI 0) dX11_dryIn_26 kiconst_0 ?_
    refine j_istore2 hE dX11_dryIn_27 rfl ?_
    have L28 : ∀ (fu : Nat) (i : Nat) (dv : Int32), 61 - i < fu → (i ≤ 61) → (((dv = -1 ∧ fnd (mdyP S hh ww nl nc) (61 - i) i = fnd (mdyP S hh ww nl nc) 61 0) ∨ (dv = nI (fnd (mdyP S hh ww nl nc) 61 0) ∧ i = fnd (mdyP S hh ww nl nc) 61 0 + 1 ∧ fnd (mdyP S hh ww nl nc) 61 0 < 61))) → J C E (mpsS (bfS S) hh ww nl nc (nI 0) i) 28 [some (.ref (C.2.1 114)), some (.int dv), some (.int (nI i))] [] := by
      intro fu
      induction fu with
      | zero => intro i dv hm; omega
      | succ fu ih =>
        intro i dv hm hi hq
        refine j_iload2 hE dX11_dryIn_28 ?_
        refine j_bipush hE (nI 60) dX11_dryIn_29 kbipush_60 ?_
        refine j_icmpgt hE 62 dX11_dryIn_31 (by decide) (fun c31 => ?_) (fun c31 => ?_)
        · skip
          have c31 : 60 < i := (nI_ltI (by omega) (by omega)).mp c31
          have hii : i = 61 := by omega
          subst hii
          have hfin : dv = (if fnd (mdyP S hh ww nl nc) 61 0 = 61 then -1 else nI (fnd (mdyP S hh ww nl nc) 61 0)) ∧ 61 = min (fnd (mdyP S hh ww nl nc) 61 0 + 1) 61 := by
            rcases hq with ⟨e, hq⟩ | ⟨e, e2, e3⟩
            · rw [show 61 - 61 = 0 from rfl, fnd] at hq
              rw [← hq, if_pos rfl]
              exact ⟨e, by omega⟩
            · rw [if_neg (by omega)]
              exact ⟨e, by omega⟩
          refine j_aload0 hE dX11_dryIn_62 ?_
          refine j_getr hE fX11_56 dX11_dryIn_63 (j := 129) (by first | assumption | rfl) (rfl) ?_
          refine j_aload0 hE dX11_dryIn_66 ?_
          refine j_getr hE fX11_22 dX11_dryIn_67 (j := 119) (by first | assumption | rfl) (rfl) ?_
          refine j_bipush hE (nI 34) dX11_dryIn_70 kbipush_34 ?_
          refine j_S3v hE mX11_188 (c_X11_copyRow l C hC _ 129 119 34 34 34 rfl rfl (by decide) (by decide) (by decide) (by decide) (by decide)) dX11_dryIn_72 (by decide) (Nat.le_of_ble_eq_true rfl) ?_
          refine j_iload1 hE dX11_dryIn_75 ?_
          exact j_iret hE hR dX11_dryIn_76 (by rw [if_neg (by omega)]; exact hfin.1) (by rw [if_neg (by omega), ← hfin.2]; rfl)
        · skip
          have c31 : i ≤ 60 := Nat.le_of_not_lt (fun q => c31 (nI_lt q (by omega)))
          refine j_iload1 hE dX11_dryIn_34 ?_
          refine j_ifge hE 62 dX11_dryIn_35 (by decide) (fun c35 => ?_) (fun c35 => ?_)
          · skip
            have hfin : dv = (if fnd (mdyP S hh ww nl nc) 61 0 = 61 then -1 else nI (fnd (mdyP S hh ww nl nc) 61 0)) ∧ i = min (fnd (mdyP S hh ww nl nc) 61 0 + 1) 61 := by
              rcases hq with ⟨e, hq⟩ | ⟨e, e2, e3⟩
              · rw [e] at c35; exact absurd c35 (by decide)
              · rw [if_neg (by omega)]
                exact ⟨e, by omega⟩
            refine j_aload0 hE dX11_dryIn_62 ?_
            refine j_getr hE fX11_56 dX11_dryIn_63 (j := 129) (by first | assumption | rfl) (rfl) ?_
            refine j_aload0 hE dX11_dryIn_66 ?_
            refine j_getr hE fX11_22 dX11_dryIn_67 (j := 119) (by first | assumption | rfl) (rfl) ?_
            refine j_bipush hE (nI 34) dX11_dryIn_70 kbipush_34 ?_
            refine j_S3v hE mX11_188 (c_X11_copyRow l C hC _ 129 119 34 34 34 rfl rfl (by decide) (by decide) (by decide) (by decide) (by decide)) dX11_dryIn_72 (by decide) (Nat.le_of_ble_eq_true rfl) ?_
            refine j_iload1 hE dX11_dryIn_75 ?_
            exact j_iret hE hR dX11_dryIn_76 (by rw [if_neg (by omega)]; exact hfin.1) (by rw [if_neg (by omega), ← hfin.2]; rfl)
          · skip
            have hq : fnd (mdyP S hh ww nl nc) (61 - i) i = fnd (mdyP S hh ww nl nc) 61 0 := by
              rcases hq with ⟨e, hq⟩ | ⟨e, e2, e3⟩
              · exact hq
              · rw [e] at c35; exact absurd (nI_pos' (by omega)) c35
            refine j_aload0 hE dX11_dryIn_38 ?_
            refine j_V0i hE mX11_222 (c_X11_allWet l C hC _ (hh * ww) (MW.ps h.bf i).cl h.le) dX11_dryIn_39 (by first | assumption | rfl) (by decide) (Nat.le_of_ble_eq_true rfl) ?_
            refine j_ifne hE 49 dX11_dryIn_42 (by decide) (fun c42 => ?_) (fun c42 => ?_)
            · skip
              have hnext : (((-1 : Int32) = -1 ∧ fnd (mdyP S hh ww nl nc) (61 - (i + 1)) (i + 1) = fnd (mdyP S hh ww nl nc) 61 0) ∨ ((-1 : Int32) = nI (fnd (mdyP S hh ww nl nc) 61 0) ∧ i + 1 = fnd (mdyP S hh ww nl nc) 61 0 + 1 ∧ fnd (mdyP S hh ww nl nc) 61 0 < 61)) := by
                refine Or.inl ⟨rfl, ?_⟩
                rw [← hq, show 61 - i = 61 - (i + 1) + 1 by omega, fnd, if_neg (by simp [mdyP, c42])]
              refine j_iconst hE (-1) dX11_dryIn_49 kiconst_m1 ?_
              refine j_istore1 hE dX11_dryIn_50 rfl ?_
              refine j_aload0 hE dX11_dryIn_51 ?_
              refine j_iconst hE (nI 0) dX11_dryIn_52 kiconst_0 ?_
              refine j_V1v hE mX11_273 (cM_pass l C hC _ hh ww nl nc (MW.ps h.bf i) hh0 (nI 0)) dX11_dryIn_53 (by first | assumption | rfl) (by decide) (Nat.le_of_ble_eq_true rfl) ?_
              refine j_iinc2 hE (nI (i + 1)) dX11_dryIn_56 (nI_inc _) rfl ?_
              refine j_goto hE 28 dX11_dryIn_59 (by decide) ?_
              exact ih (i + 1) _ (by omega) (by omega) hnext
            · skip
              have hnext : ((nI i = -1 ∧ fnd (mdyP S hh ww nl nc) (61 - (i + 1)) (i + 1) = fnd (mdyP S hh ww nl nc) 61 0) ∨ (nI i = nI (fnd (mdyP S hh ww nl nc) 61 0) ∧ i + 1 = fnd (mdyP S hh ww nl nc) 61 0 + 1 ∧ fnd (mdyP S hh ww nl nc) 61 0 < 61)) := by
                have e : i = fnd (mdyP S hh ww nl nc) 61 0 := by rw [← hq, show 61 - i = 61 - (i + 1) + 1 by omega, fnd, if_pos (by simp [mdyP, c42])]
                exact Or.inr ⟨by rw [← e], by omega, by omega⟩
              refine j_iload2 hE dX11_dryIn_45 ?_
              refine j_goto hE 50 dX11_dryIn_46 (by decide) ?_
              refine j_istore1 hE dX11_dryIn_50 rfl ?_
              refine j_aload0 hE dX11_dryIn_51 ?_
              refine j_iconst hE (nI 0) dX11_dryIn_52 kiconst_0 ?_
              refine j_V1v hE mX11_273 (cM_pass l C hC _ hh ww nl nc (MW.ps h.bf i) hh0 (nI 0)) dX11_dryIn_53 (by first | assumption | rfl) (by decide) (Nat.le_of_ble_eq_true rfl) ?_
              refine j_iinc2 hE (nI (i + 1)) dX11_dryIn_56 (nI_inc _) rfl ?_
              refine j_goto hE 28 dX11_dryIn_59 (by decide) ?_
              exact ih (i + 1) _ (by omega) (by omega) hnext
    exact L28 62 0 _ (by omega) (by omega) (Or.inl ⟨rfl, rfl⟩)
  · skip
    have hh0 : hh = 0 := (nI_z (Nat.le_trans h.2.2.1 (by decide))).mp (by rw [← h.1]; exact c4)
    refine j_ldcw hE dX11_dryIn_7 kX11_269 ?_
    exact j_iret hE hR dX11_dryIn_10 (by first
        | (rw [if_pos hh0]; first | done | rfl)) (by first
        | (rw [if_pos hh0]; first | done | rfl))

set_option maxHeartbeats 4000000 in
set_option maxRecDepth 100000 in
theorem c_X11_either (l : Launch) (C : JC) (hC : JInj C) (S : Sto) (nn : Nat) (hnn : mcl S = nI nn) (hle : nn ≤ 25) (nf : Nat) (hnf : S 114 7 = nI nf) (hfl : nf ≤ 5) (f g w : Int32) : Con l C yX11_either cX11_either 5 (some .int) 4 [.ref (C.2.1 114), .int f, .int g, .int w] S (some (.int (if ¬ (isM (S 114 7) f ∧ isM (S 114 7) g) then -1000000001 else if ¬ inP w.toInt64 (lN 0) (lN 1) then -1000000002 else (if w = 0 then S 118 f.toNatClampNeg ^^^ S 118 g.toNatClampNeg else bitsF ((S 118 f.toNatClampNeg ^^^ S 118 g.toNatClampNeg) &&& ((mshF (S 119) nn ^^^ S 118 f.toNatClampNeg) ^^^ (-1))) 25)))) (S) := by
  refine con_of RX11 1 [some (.ref (C.2.1 114)), some (.int f), some (.int g), some (.int w), none] (by decide) rfl hC (Nat.le_of_ble_eq_true rfl) rfl (Nat.le_of_ble_eq_true rfl) (fun E hE hR => ?_)
  refine j_aload0 hE dX11_either_0 ?_
  refine j_iload1 hE dX11_either_1 ?_
  refine j_V1i hE mX11_251 (c_X11_isLike l C hC _ f) dX11_either_2 (by first | assumption | rfl) (by decide) (Nat.le_of_ble_eq_true rfl) ?_
  first | refine j_ifeqP hE 16 dX11_either_5 (by decide) (fun c5 => ?_) (fun c5 => ?_) | refine j_ifeq hE 16 dX11_either_5 (by decide) (fun c5 => ?_) (fun c5 => ?_)
  · skip
    refine j_ldc hE dX11_either_16 kX11_244 ?_
    exact j_iret hE hR dX11_either_18 (by first
        | (rw [if_pos (fun z => c5 z.1)]; first | done | rfl)
        | (rw [if_pos (fun z => c13 z.2)]; first | done | rfl)) (rfl)
  · skip
    refine j_aload0 hE dX11_either_8 ?_
    refine j_iload2 hE dX11_either_9 ?_
    refine j_V1i hE mX11_251 (c_X11_isLike l C hC _ g) dX11_either_10 (by first | assumption | rfl) (by decide) (Nat.le_of_ble_eq_true rfl) ?_
    first | refine j_ifneP hE 19 dX11_either_13 (by decide) (fun c13 => ?_) (fun c13 => ?_) | refine j_ifne hE 19 dX11_either_13 (by decide) (fun c13 => ?_) (fun c13 => ?_)
    · skip
      refine j_iload3 hE dX11_either_19 ?_
      refine j_i2l hE dX11_either_20 ?_
      refine j_lconst hE (lN 0) dX11_either_21 rfl ?_
      refine j_lconst hE (lN 1) dX11_either_22 rfl ?_
      refine j_S3i hE mX11_82 (c_X11_in l C hC _ _ _ _) dX11_either_23 (by decide) (Nat.le_of_ble_eq_true rfl) ?_
      first | refine j_ifneP hE 32 dX11_either_26 (by decide) (fun c26 => ?_) (fun c26 => ?_) | refine j_ifne hE 32 dX11_either_26 (by decide) (fun c26 => ?_) (fun c26 => ?_)
      · skip
        obtain ⟨j, hj, rfl⟩ := isM_n (k := nf) (by omega) (by rw [← hnf]; exact c5)
        obtain ⟨q, hq, rfl⟩ := isM_n (k := nf) (by omega) (by rw [← hnf]; exact c13)
        refine j_aload0 hE dX11_either_32 ?_
        refine j_getr hE fX11_19 dX11_either_33 (j := 118) (by first | assumption | rfl) (rfl) ?_
        refine j_iload1 hE dX11_either_36 ?_
        refine j_ialdN hE dX11_either_37 (by first | assumption | rfl) (by omega) (by decide) ?_
        refine j_aload0 hE dX11_either_38 ?_
        refine j_getr hE fX11_19 dX11_either_39 (j := 118) (by first | assumption | rfl) (rfl) ?_
        refine j_iload2 hE dX11_either_42 ?_
        refine j_ialdN hE dX11_either_43 (by first | assumption | rfl) (by omega) (by decide) ?_
        refine j_ixor hE dX11_either_44 ?_
        refine j_istore4 hE dX11_either_45 rfl ?_
        refine j_iload3 hE dX11_either_47 ?_
        refine j_ifne hE 56 dX11_either_48 (by decide) (fun c48 => ?_) (fun c48 => ?_)
        · skip
          refine j_iload4 hE dX11_either_56 ?_
          refine j_aload0 hE dX11_either_58 ?_
          refine j_V0i hE mX11_204 (c_X11_shows l C hC _ nn hnn hle) dX11_either_59 (by first | assumption | rfl) (by decide) (Nat.le_of_ble_eq_true rfl) ?_
          refine j_aload0 hE dX11_either_62 ?_
          refine j_getr hE fX11_19 dX11_either_63 (j := 118) (by first | assumption | rfl) (rfl) ?_
          refine j_iload1 hE dX11_either_66 ?_
          refine j_ialdN hE dX11_either_67 (by first | assumption | rfl) (by omega) (by decide) ?_
          refine j_ixor hE dX11_either_68 ?_
          refine j_iconst hE (-1) dX11_either_69 kiconst_m1 ?_
          refine j_ixor hE dX11_either_70 ?_
          refine j_iand hE dX11_either_71 ?_
          refine j_S1i hE mX11_207 (c_X11_bits l C hC _ _) dX11_either_72 (by decide) (Nat.le_of_ble_eq_true rfl) ?_
          exact j_iret hE hR dX11_either_75 (by first
              | (rw [if_neg (fun z => z ⟨c5, c13⟩), if_neg (fun z => z c26), nI_clamp (by omega), nI_clamp (by omega), if_pos c48]; first | done | rfl)
              | (rw [if_neg (fun z => z ⟨c5, c13⟩), if_neg (fun z => z c26), nI_clamp (by omega), nI_clamp (by omega), if_neg c48]; first | done | rfl)) (rfl)
        · skip
          refine j_iload4 hE dX11_either_51 ?_
          refine j_goto hE 75 dX11_either_53 (by decide) ?_
          exact j_iret hE hR dX11_either_75 (by first
              | (rw [if_neg (fun z => z ⟨c5, c13⟩), if_neg (fun z => z c26), nI_clamp (by omega), nI_clamp (by omega), if_pos c48]; first | done | rfl)
              | (rw [if_neg (fun z => z ⟨c5, c13⟩), if_neg (fun z => z c26), nI_clamp (by omega), nI_clamp (by omega), if_neg c48]; first | done | rfl)) (rfl)
      · skip
        refine j_ldc hE dX11_either_29 kX11_97 ?_
        exact j_iret hE hR dX11_either_31 (by first
            | (rw [if_neg (fun z => z ⟨c5, c13⟩), if_pos c26]; first | done | rfl)) (rfl)
    · skip
      refine j_ldc hE dX11_either_16 kX11_244 ?_
      exact j_iret hE hR dX11_either_18 (by first
          | (rw [if_pos (fun z => c5 z.1)]; first | done | rfl)
          | (rw [if_pos (fun z => c13 z.2)]; first | done | rfl)) (rfl)

set_option maxHeartbeats 4000000 in
set_option maxRecDepth 100000 in
theorem c_X11_rainy (l : Launch) (C : JC) (hC : JInj C) (S : Sto) (n q : Int32) : Con l C yX11_rainy cX11_rainy 6 (some .int) 3 [.ref (C.2.1 114), .int n, .int q] S (some (.int (if ¬ (inP n.toInt64 (lN 0) 60 ∧ inP q.toInt64 (lN 0) 100) then -1000000002 else (rnF q n.toNatClampNeg).toInt32))) (S) := by
  refine con_of RX11 3 [some (.ref (C.2.1 114)), some (.int n), some (.int q), none, none, none] (by decide) rfl hC (Nat.le_of_ble_eq_true rfl) rfl (Nat.le_of_ble_eq_true rfl) (fun E hE hR => ?_)
  refine j_iload1 hE dX11_rainy_0 ?_
  refine j_i2l hE dX11_rainy_1 ?_
  refine j_lconst hE (lN 0) dX11_rainy_2 rfl ?_
  refine j_ldc2 hE dX11_rainy_3 kX11_265 ?_
  refine j_S3i hE mX11_82 (c_X11_in l C hC _ _ _ _) dX11_rainy_6 (by decide) (Nat.le_of_ble_eq_true rfl) ?_
  first | refine j_ifeqP hE 24 dX11_rainy_9 (by decide) (fun c9 => ?_) (fun c9 => ?_) | refine j_ifeq hE 24 dX11_rainy_9 (by decide) (fun c9 => ?_) (fun c9 => ?_)
  · skip
    refine j_ldc hE dX11_rainy_24 kX11_97 ?_
    exact j_iret hE hR dX11_rainy_26 (by first
        | (rw [if_pos (fun z => c9 z.1)]; first | done | rfl)
        | (rw [if_pos (fun z => c21 z.2)]; first | done | rfl)) (rfl)
  · skip
    refine j_iload2 hE dX11_rainy_12 ?_
    refine j_i2l hE dX11_rainy_13 ?_
    refine j_lconst hE (lN 0) dX11_rainy_14 rfl ?_
    refine j_ldc2 hE dX11_rainy_15 kX11_313 ?_
    refine j_S3i hE mX11_82 (c_X11_in l C hC _ _ _ _) dX11_rainy_18 (by decide) (Nat.le_of_ble_eq_true rfl) ?_
    first | refine j_ifneP hE 27 dX11_rainy_21 (by decide) (fun c21 => ?_) (fun c21 => ?_) | refine j_ifne hE 27 dX11_rainy_21 (by decide) (fun c21 => ?_) (fun c21 => ?_)
    · skip
      obtain ⟨k, hk1, hk2, rfl⟩ := in_n (a := 0) (b := 60) rfl rfl c9
      refine j_ldc2 hE dX11_rainy_27 kX11_315 ?_
      refine j_lstore_n hE dX11_rainy_30 (Nat.le_of_ble_eq_true rfl) rfl ?_
      refine j_iconst hE (nI 0) dX11_rainy_31 kiconst_0 ?_
      refine j_istore5 hE dX11_rainy_32 rfl ?_
      have L34 : ∀ (fu : Nat) (i : Nat), k - i < fu → (i ≤ k) → J C E S 34 [some (.ref (C.2.1 114)), some (.int (nI k)), some (.int q), some (.long (rnF q i)), none, some (.int (nI i))] [] := by
        intro fu
        induction fu with
        | zero => intro i hm; omega
        | succ fu ih =>
          intro i hm hi
          refine j_iload5 hE dX11_rainy_34 ?_
          refine j_iload1 hE dX11_rainy_36 ?_
          refine j_icmpge hE 55 dX11_rainy_37 (by decide) (fun c37 => ?_) (fun c37 => ?_)
          · skip
            have c37 := (nI_leI (by omega) (by omega)).mp c37
            have hii : i = k := by omega
            subst hii
            refine j_lload3 hE dX11_rainy_55 ?_
            refine j_l2i hE dX11_rainy_56 ?_
            exact j_iret hE hR dX11_rainy_57 (by first
                | (rw [if_neg (fun z => z ⟨c9, c21⟩), nI_clamp (by omega)]; first | done | rfl)) (rfl)
          · skip
            have c37 : i < k := Nat.lt_of_not_le (fun q => c37 (nI_le q (by omega)))
            refine j_lload3 hE dX11_rainy_40 ?_
            refine j_iload2 hE dX11_rainy_41 ?_
            refine j_i2l hE dX11_rainy_42 ?_
            refine j_lmul hE dX11_rainy_43 ?_
            refine j_ldc2 hE dX11_rainy_44 kX11_313 ?_
            refine j_ldiv hE dX11_rainy_47 (by decide) ?_
            refine j_lstore_n hE dX11_rainy_48 (Nat.le_of_ble_eq_true rfl) rfl ?_
            refine j_iinc5 hE (nI (i + 1)) dX11_rainy_49 (nI_inc _) rfl ?_
            refine j_goto hE 34 dX11_rainy_52 (by decide) ?_
            exact ih (i + 1) (by omega) (by omega)
      exact L34 (k + 1) 0 (by omega) (by omega)
    · skip
      refine j_ldc hE dX11_rainy_24 kX11_97 ?_
      exact j_iret hE hR dX11_rainy_26 (by first
          | (rw [if_pos (fun z => c9 z.1)]; first | done | rfl)
          | (rw [if_pos (fun z => c21 z.2)]; first | done | rfl)) (rfl)

def mwtS (S : Sto) (nb : Nat) (x w : Int32) : Sto := up2 (up2 (up2 S 130 nb x) 131 nb w) 114 35 (nI (nb + 1))
set_option maxHeartbeats 4000000 in
set_option maxRecDepth 100000 in
theorem c_X11_write (l : Launch) (C : JC) (hC : JInj C) (S : Sto) (nb : Nat) (hnb : S 114 35 = nI nb) (hb15 : nb ≤ 15) (x w : Int32) : Con l C yX11_write cX11_write 3 (some .int) 4 [.ref (C.2.1 114), .int x, .int w] S (some (.int (if ¬ isM (mcl S) x then -1000000001 else if ¬ inP w.toInt64 (lN 0) 9 then -1000000002 else if nb = 15 then -1000000004 else nI (nb + 1)))) (if ¬ isM (mcl S) x then S else if ¬ inP w.toInt64 (lN 0) 9 then S else if nb = 15 then S else mwtS S nb x w) := by
  refine con_of RX11 0 [some (.ref (C.2.1 114)), some (.int x), some (.int w)] (by decide) rfl hC (Nat.le_of_ble_eq_true rfl) rfl (Nat.le_of_ble_eq_true rfl) (fun E hE hR => ?_)
  refine j_aload0 hE dX11_write_0 ?_
  refine j_iload1 hE dX11_write_1 ?_
  refine j_V1i hE mX11_241 (c_X11_isCell l C hC _ x) dX11_write_2 (by first | assumption | rfl) (by decide) (Nat.le_of_ble_eq_true rfl) ?_
  first | refine j_ifneP hE 11 dX11_write_5 (by decide) (fun c5 => ?_) (fun c5 => ?_) | refine j_ifne hE 11 dX11_write_5 (by decide) (fun c5 => ?_) (fun c5 => ?_)
  · skip
    refine j_iload2 hE dX11_write_11 ?_
    refine j_i2l hE dX11_write_12 ?_
    refine j_lconst hE (lN 0) dX11_write_13 rfl ?_
    refine j_ldc2 hE dX11_write_14 kX11_267 ?_
    refine j_S3i hE mX11_82 (c_X11_in l C hC _ _ _ _) dX11_write_17 (by decide) (Nat.le_of_ble_eq_true rfl) ?_
    first | refine j_ifneP hE 26 dX11_write_20 (by decide) (fun c20 => ?_) (fun c20 => ?_) | refine j_ifne hE 26 dX11_write_20 (by decide) (fun c20 => ?_) (fun c20 => ?_)
    · skip
      refine j_aload0 hE dX11_write_26 ?_
      refine j_geti hE fX11_198 dX11_write_27 (by first | assumption | rfl) ?_
      refine j_bipush hE (nI 15) dX11_write_30 kbipush_15 ?_
      refine j_icmpne hE 38 dX11_write_32 (by decide) (fun c32 => ?_) (fun c32 => ?_)
      · skip
        rw [hnb] at c32
        have c32 : ¬ nb = 15 := fun z => c32 (by rw [z])
        refine j_aload0 hE dX11_write_38 ?_
        refine j_getr hE fX11_59 dX11_write_39 (j := 130) (by first | assumption | rfl) (rfl) ?_
        refine j_aload0 hE dX11_write_42 ?_
        refine j_geti hE fX11_198 dX11_write_43 (by first | assumption | rfl) ?_
        refine j_top (y := nI nb) hnb ?_
        refine j_iload1 hE dX11_write_46 ?_
        refine j_iastN hE dX11_write_47 (by first | assumption | rfl) (by omega) (by decide) ?_
        refine j_aload0 hE dX11_write_48 ?_
        refine j_getr hE fX11_62 dX11_write_49 (j := 131) (by first | assumption | rfl) (rfl) ?_
        refine j_aload0 hE dX11_write_52 ?_
        refine j_geti hE fX11_198 dX11_write_53 (by first | assumption | rfl) ?_
        refine j_top (y := nI nb) (by rw [up2_ne _ _ _ (by decide)]; exact hnb) ?_
        refine j_iload2 hE dX11_write_56 ?_
        refine j_iastN hE dX11_write_57 (by first | assumption | rfl) (by omega) (by decide) ?_
        refine j_aload0 hE dX11_write_58 ?_
        refine j_dup hE dX11_write_59 rfl ?_
        refine j_geti hE fX11_198 dX11_write_60 (by first | assumption | rfl) ?_
        refine j_iconst hE (nI 1) dX11_write_63 kiconst_1 ?_
        refine j_iadd hE dX11_write_64 ?_
        refine j_top (y := nI (nb + 1)) (by rw [up2_ne _ _ _ (by decide), up2_ne _ _ _ (by decide), hnb, nI_add]) ?_
        refine j_puti hE pX11_198 dX11_write_65 (by first | assumption | rfl) rfl rfl ?_
        refine j_aload0 hE dX11_write_68 ?_
        refine j_geti hE fX11_198 dX11_write_69 (by first | assumption | rfl) ?_
        exact j_iret hE hR dX11_write_72 (by rw [if_neg (fun z => z c5), if_neg (fun z => z c20), if_neg c32, up2_same, pk_us]) (by rw [if_neg (fun z => z c5), if_neg (fun z => z c20), if_neg c32]; rfl)
      · skip
        rw [hnb] at c32
        have c32 : nb = 15 := (nI_eq (by omega) (by decide)).mp c32
        refine j_ldc hE dX11_write_35 kX11_101 ?_
        exact j_iret hE hR dX11_write_37 (by first
            | (rw [if_neg (fun z => z c5), if_neg (fun z => z c20), if_pos c32]; first | done | rfl)) (by first
            | (rw [if_neg (fun z => z c5), if_neg (fun z => z c20), if_pos c32]; first | done | rfl))
    · skip
      refine j_ldc hE dX11_write_23 kX11_97 ?_
      exact j_iret hE hR dX11_write_25 (by first
          | (rw [if_neg (fun z => z c5), if_pos c20]; first | done | rfl)) (by first
          | (rw [if_neg (fun z => z c5), if_pos c20]; first | done | rfl))
  · skip
    refine j_ldc hE dX11_write_8 kX11_244 ?_
    exact j_iret hE hR dX11_write_10 (by first
        | (rw [if_pos c5]; first | done | rfl)) (by first
        | (rw [if_pos c5]; first | done | rfl))

set_option maxHeartbeats 4000000 in
set_option maxRecDepth 100000 in
theorem c_X11_tear (l : Launch) (C : JC) (hC : JInj C) (S : Sto)  : Con l C yX11_tear cX11_tear 2 (some .int) 1 [.ref (C.2.1 114)] S (some (.int (S 114 35))) (up2 S 114 35 (nI 0)) := by
  refine con_of RX11 1 [some (.ref (C.2.1 114)), none] (by decide) rfl hC (Nat.le_of_ble_eq_true rfl) rfl (Nat.le_of_ble_eq_true rfl) (fun E hE hR => ?_)
  refine j_aload0 hE dX11_tear_0 ?_
  refine j_geti hE fX11_198 dX11_tear_1 (by first | assumption | rfl) ?_
  refine j_istore1 hE dX11_tear_4 rfl ?_
  refine j_aload0 hE dX11_tear_5 ?_
  refine j_iconst hE (nI 0) dX11_tear_6 kiconst_0 ?_
  refine j_puti hE pX11_198 dX11_tear_7 (by first | assumption | rfl) rfl rfl ?_
  refine j_iload1 hE dX11_tear_10 ?_
  exact j_iret hE hR dX11_tear_11 (rfl) (rfl)

def mjdP (S : Sto) : Nat → Bool := fun k => !decide (S 119 (S 130 k).toNatClampNeg = S 131 k)
set_option maxHeartbeats 4000000 in
set_option maxRecDepth 100000 in
theorem c_X11_judge (l : Launch) (C : JC) (hC : JInj C) (S : Sto) (nb : Nat) (hnb : S 114 35 = nI nb) (hb15 : nb ≤ 15) (hbk : ∀ k, k < nb → ∃ a, a < 25 ∧ S 130 k = nI a) : Con l C yX11_judge cX11_judge 2 (some .int) 1 [.ref (C.2.1 114)] S (some (.int (if fnd (mjdP S) nb 0 = nb then -1 else nI (fnd (mjdP S) nb 0)))) (S) := by
  refine con_of RX11 1 [some (.ref (C.2.1 114)), none] (by decide) rfl hC (Nat.le_of_ble_eq_true rfl) rfl (Nat.le_of_ble_eq_true rfl) (fun E hE hR => ?_)
  refine j_iconst hE (nI 0) dX11_judge_0 kiconst_0 ?_
  refine j_istore1 hE dX11_judge_1 rfl ?_
  have L2 : ∀ (fu : Nat) (i : Nat), nb - i < fu → (i ≤ nb) → (fnd (mjdP S) (nb - i) i = fnd (mjdP S) nb 0) → J C E S 2 [some (.ref (C.2.1 114)), some (.int (nI i))] [] := by
    intro fu
    induction fu with
    | zero => intro i hm; omega
    | succ fu ih =>
      intro i hm hi hq
      refine j_iload1 hE dX11_judge_2 ?_
      refine j_aload0 hE dX11_judge_3 ?_
      refine j_geti hE fX11_198 dX11_judge_4 (by first | assumption | rfl) ?_
      refine j_icmpge hE 38 dX11_judge_7 (by decide) (fun c7 => ?_) (fun c7 => ?_)
      · skip
        rw [hnb] at c7
        have c7 := (nI_leI (by omega) (by omega)).mp c7
        have hii : i = nb := by omega
        subst hii
        rw [Nat.sub_self, fnd] at hq
        refine j_iconst hE (-1) dX11_judge_38 kiconst_m1 ?_
        exact j_iret hE hR dX11_judge_39 (by rw [← hq, if_pos rfl]) (rfl)
      · skip
        rw [hnb] at c7
        have c7 : i < nb := Nat.lt_of_not_le (fun q => c7 (nI_le q (by omega)))
        refine j_aload0 hE dX11_judge_10 ?_
        refine j_getr hE fX11_22 dX11_judge_11 (j := 119) (by first | assumption | rfl) (rfl) ?_
        refine j_aload0 hE dX11_judge_14 ?_
        refine j_getr hE fX11_59 dX11_judge_15 (j := 130) (by first | assumption | rfl) (rfl) ?_
        refine j_iload1 hE dX11_judge_18 ?_
        refine j_ialdN hE dX11_judge_19 (by first | assumption | rfl) (by omega) (by decide) ?_
        obtain ⟨a, ha, ea⟩ := hbk i c7
        refine j_top (y := nI a) ea ?_
        refine j_ialdN hE dX11_judge_20 (by first | assumption | rfl) (by omega) (by decide) ?_
        refine j_aload0 hE dX11_judge_21 ?_
        refine j_getr hE fX11_62 dX11_judge_22 (j := 131) (by first | assumption | rfl) (rfl) ?_
        refine j_iload1 hE dX11_judge_25 ?_
        refine j_ialdN hE dX11_judge_26 (by first | assumption | rfl) (by omega) (by decide) ?_
        refine j_icmpeq hE 32 dX11_judge_27 (by decide) (fun c27 => ?_) (fun c27 => ?_)
        · skip
          have c27 : S 119 (S 130 i).toNatClampNeg = S 131 i := by rw [ea, nI_clamp (by omega)]; exact c27
          refine j_iinc1 hE (nI (i + 1)) dX11_judge_32 (nI_inc _) rfl ?_
          refine j_goto hE 2 dX11_judge_35 (by decide) ?_
          exact ih (i + 1) (by omega) (by omega) (by rw [← hq, show nb - i = nb - (i + 1) + 1 by omega, fnd, if_neg (by simp [mjdP, c27])])
        · skip
          have c27 : ¬ S 119 (S 130 i).toNatClampNeg = S 131 i := by rw [ea, nI_clamp (by omega)]; exact c27
          have hq2 : i = fnd (mjdP S) nb 0 := by rw [← hq, show nb - i = nb - (i + 1) + 1 by omega, fnd, if_pos (by simp [mjdP, c27])]
          refine j_iload1 hE dX11_judge_30 ?_
          exact j_iret hE hR dX11_judge_31 (by rw [← hq2, if_neg (by omega)]) (rfl)
  exact L2 (nb + 1) 0 (by omega) (by omega) (by rw [Nat.sub_zero])

set_option maxHeartbeats 4000000 in
set_option maxRecDepth 100000 in
theorem c_X11_seed (l : Launch) (C : JC) (hC : JInj C) (S : Sto) (v : Int32) : Con l C yX11_seed cX11_seed 3 (some .int) 1 [.ref (C.2.1 114), .int v] S (some (.int (if ¬ 0 ≤ v then -1000000002 else S 114 11))) (if ¬ 0 ≤ v then S else up2 S 114 11 v) := by
  refine con_of RX11 1 [some (.ref (C.2.1 114)), some (.int v), none] (by decide) rfl hC (Nat.le_of_ble_eq_true rfl) rfl (Nat.le_of_ble_eq_true rfl) (fun E hE hR => ?_)
  refine j_iload1 hE dX11_seed_0 ?_
  refine j_ifge hE 7 dX11_seed_1 (by decide) (fun c1 => ?_) (fun c1 => ?_)
  · skip
    refine j_aload0 hE dX11_seed_7 ?_
    refine j_geti hE fX11_281 dX11_seed_8 (by first | assumption | rfl) ?_
    refine j_istore2 hE dX11_seed_11 rfl ?_
    refine j_aload0 hE dX11_seed_12 ?_
    refine j_iload1 hE dX11_seed_13 ?_
    refine j_puti hE pX11_281 dX11_seed_14 (by first | assumption | rfl) rfl rfl ?_
    refine j_iload2 hE dX11_seed_17 ?_
    exact j_iret hE hR dX11_seed_18 (by first
        | (rw [if_neg (fun z => z c1)]; first | done | rfl)) (by first
        | (rw [if_neg (fun z => z c1)]; first | done | rfl))
  · skip
    refine j_ldc hE dX11_seed_4 kX11_97 ?_
    exact j_iret hE hR dX11_seed_6 (by first
        | (rw [if_pos c1]; first | done | rfl)) (by first
        | (rw [if_pos c1]; first | done | rfl))

def mkpS (S : Sto) (k : Nat) : Sto := up2 (up2 (up2 (upA S 132 (putW (S 132) (S 119) (35 * k) 34)) 132 (35 * k + 34) (S 114 11)) 133 k (nI 1)) 114 32 (nI 0)
def mbkS (S : Sto) (k : Nat) : Sto := up2 (up2 (upA S 119 (cpN 34 (fun j => S 132 (35 * k + j)) (S 119))) 114 11 (S 132 (35 * k + 34))) 114 32 (nI 0)
set_option maxHeartbeats 4000000 in
set_option maxRecDepth 100000 in
theorem c_X11_keep (l : Launch) (C : JC) (hC : JInj C) (S : Sto) (i : Int32) : Con l C yX11_keep cX11_keep 3 (some .int) 3 [.ref (C.2.1 114), .int i] S (some (.int (if ¬ inP i.toInt64 (lN 0) (lN 1) then -1000000001 else nI 1))) (if ¬ inP i.toInt64 (lN 0) (lN 1) then S else mkpS S i.toNatClampNeg) := by
  refine con_of RX11 1 [some (.ref (C.2.1 114)), some (.int i), none] (by decide) rfl hC (Nat.le_of_ble_eq_true rfl) rfl (Nat.le_of_ble_eq_true rfl) (fun E hE hR => ?_)
  refine j_iload1 hE dX11_keep_0 ?_
  refine j_i2l hE dX11_keep_1 ?_
  refine j_lconst hE (lN 0) dX11_keep_2 rfl ?_
  refine j_lconst hE (lN 1) dX11_keep_3 rfl ?_
  refine j_S3i hE mX11_82 (c_X11_in l C hC _ _ _ _) dX11_keep_4 (by decide) (Nat.le_of_ble_eq_true rfl) ?_
  first | refine j_ifneP hE 13 dX11_keep_7 (by decide) (fun c7 => ?_) (fun c7 => ?_) | refine j_ifne hE 13 dX11_keep_7 (by decide) (fun c7 => ?_) (fun c7 => ?_)
  · skip
    obtain ⟨k, hk1, hk2, rfl⟩ := in_n (a := 0) (b := 1) rfl rfl c7
    refine j_iconst hE (nI 0) dX11_keep_13 kiconst_0 ?_
    refine j_istore2 hE dX11_keep_14 rfl ?_
    have L15 : ∀ (fu : Nat) (t : Nat), 34 - t < fu → (t ≤ 34) → J C E (upA S 132 (putW (S 132) (S 119) (35 * k) t)) 15 [some (.ref (C.2.1 114)), some (.int (nI k)), some (.int (nI t))] [] := by
      intro fu
      induction fu with
      | zero => intro t hm; omega
      | succ fu ih =>
        intro t hm ht
        refine j_iload2 hE dX11_keep_15 ?_
        refine j_bipush hE (nI 34) dX11_keep_16 kbipush_34 ?_
        refine j_icmpge hE 44 dX11_keep_18 (by decide) (fun c18 => ?_) (fun c18 => ?_)
        · skip
          have c18 := (nI_leI (by omega) (by omega)).mp c18
          have hii : t = 34 := by omega
          subst hii
          refine j_aload0 hE dX11_keep_44 ?_
          refine j_getr hE fX11_65 dX11_keep_45 (j := 132) (by first | assumption | rfl) (rfl) ?_
          refine j_bipush hE (nI 35) dX11_keep_48 kbipush_35 ?_
          refine j_iload1 hE dX11_keep_50 ?_
          refine j_imul hE dX11_keep_51 ?_
          refine j_bipush hE (nI 34) dX11_keep_52 kbipush_34 ?_
          refine j_iadd hE dX11_keep_54 ?_
          refine j_aload0 hE dX11_keep_55 ?_
          refine j_geti hE fX11_281 dX11_keep_56 (by first | assumption | rfl) ?_
          refine j_top2 (y := nI (35 * k + 34)) (by rw [pk_mul, nI_add]) ?_
          refine j_top (y := S 114 11) (by rw [upA_ne _ _ (by decide)]) ?_
          refine j_iastN hE dX11_keep_59 (by first | assumption | rfl) (by omega) (by decide) ?_
          refine j_aload0 hE dX11_keep_60 ?_
          refine j_getr hE fX11_68 dX11_keep_61 (j := 133) (by first | assumption | rfl) (rfl) ?_
          refine j_iload1 hE dX11_keep_64 ?_
          refine j_iconst hE (nI 1) dX11_keep_65 kiconst_1 ?_
          refine j_zast hE dX11_keep_66 (rfl) (vp_in_nI (by omega) (by decide)) rfl ?_
          refine j_aload0 hE dX11_keep_67 ?_
          refine j_iconst hE (nI 0) dX11_keep_68 kiconst_0 ?_
          refine j_puti hE pX11_201 dX11_keep_69 (by first | assumption | rfl) rfl rfl ?_
          refine j_iconst hE (nI 1) dX11_keep_72 kiconst_1 ?_
          exact j_iret hE hR dX11_keep_73 (by first
              | (rw [if_neg (fun z => z c7)]; first | done | rfl)) (by first
              | (rw [if_neg (fun z => z c7), nI_clamp (by omega)]; first | done | rfl))
        · skip
          have c18 : t < 34 := Nat.lt_of_not_le (fun q => c18 (nI_le q (by omega)))
          refine j_aload0 hE dX11_keep_21 ?_
          refine j_getr hE fX11_65 dX11_keep_22 (j := 132) (by first | assumption | rfl) (rfl) ?_
          refine j_bipush hE (nI 35) dX11_keep_25 kbipush_35 ?_
          refine j_iload1 hE dX11_keep_27 ?_
          refine j_imul hE dX11_keep_28 ?_
          refine j_iload2 hE dX11_keep_29 ?_
          refine j_iadd hE dX11_keep_30 ?_
          refine j_aload0 hE dX11_keep_31 ?_
          refine j_getr hE fX11_22 dX11_keep_32 (j := 119) (by first | assumption | rfl) (rfl) ?_
          refine j_iload2 hE dX11_keep_35 ?_
          refine j_ialdN hE dX11_keep_36 (by first | assumption | rfl) (by omega) (by decide) ?_
          refine j_top2 (y := nI (35 * k + t)) (by rw [pk_mul, nI_add]) ?_
          refine j_iastN hE dX11_keep_37 (by first | assumption | rfl) (by omega) (by decide) ?_
          refine j_iinc2 hE (nI (t + 1)) dX11_keep_38 (nI_inc _) rfl ?_
          refine j_goto hE 15 dX11_keep_41 (by decide) ?_
          exact j_cast (by rw [up2_upA, upA_ne (j := 119) _ _ (by decide), putW_s]) rfl (ih (t + 1) (by omega) (by omega))
    exact j_cast (by rw [putW_0, upA_self]) rfl (L15 35 0 (by omega) (by omega))
  · skip
    refine j_ldc hE dX11_keep_10 kX11_244 ?_
    exact j_iret hE hR dX11_keep_12 (by first
        | (rw [if_pos c7]; first | done | rfl)) (by first
        | (rw [if_pos c7]; first | done | rfl))

set_option maxHeartbeats 4000000 in
set_option maxRecDepth 100000 in
theorem c_X11_goBack (l : Launch) (C : JC) (hC : JInj C) (S : Sto) (i : Int32) : Con l C yX11_goBack cX11_goBack 3 (some .int) 3 [.ref (C.2.1 114), .int i] S (some (.int (if ¬ inP i.toInt64 (lN 0) (lN 1) then -1000000001 else if S 133 i.toNatClampNeg = 0 then -1000000003 else nI 1))) (if ¬ inP i.toInt64 (lN 0) (lN 1) then S else if S 133 i.toNatClampNeg = 0 then S else mbkS S i.toNatClampNeg) := by
  refine con_of RX11 1 [some (.ref (C.2.1 114)), some (.int i), none] (by decide) rfl hC (Nat.le_of_ble_eq_true rfl) rfl (Nat.le_of_ble_eq_true rfl) (fun E hE hR => ?_)
  refine j_iload1 hE dX11_goBack_0 ?_
  refine j_i2l hE dX11_goBack_1 ?_
  refine j_lconst hE (lN 0) dX11_goBack_2 rfl ?_
  refine j_lconst hE (lN 1) dX11_goBack_3 rfl ?_
  refine j_S3i hE mX11_82 (c_X11_in l C hC _ _ _ _) dX11_goBack_4 (by decide) (Nat.le_of_ble_eq_true rfl) ?_
  first | refine j_ifneP hE 13 dX11_goBack_7 (by decide) (fun c7 => ?_) (fun c7 => ?_) | refine j_ifne hE 13 dX11_goBack_7 (by decide) (fun c7 => ?_) (fun c7 => ?_)
  · skip
    obtain ⟨k, hk1, hk2, rfl⟩ := in_n (a := 0) (b := 1) rfl rfl c7
    refine j_aload0 hE dX11_goBack_13 ?_
    refine j_getr hE fX11_68 dX11_goBack_14 (j := 133) (by first | assumption | rfl) (rfl) ?_
    refine j_iload1 hE dX11_goBack_17 ?_
    refine j_zald hE dX11_goBack_18 (rfl) (vp_in_nI (by omega) (by decide)) ?_
    refine j_ifne hE 26 dX11_goBack_19 (by decide) (fun c19 => ?_) (fun c19 => ?_)
    · skip
      refine j_iconst hE (nI 0) dX11_goBack_26 kiconst_0 ?_
      refine j_istore2 hE dX11_goBack_27 rfl ?_
      have L28 : ∀ (fu : Nat) (t : Nat), 34 - t < fu → (t ≤ 34) → J C E (upA S 119 (cpN t (fun j => S 132 (35 * k + j)) (S 119))) 28 [some (.ref (C.2.1 114)), some (.int (nI k)), some (.int (nI t))] [] := by
        intro fu
        induction fu with
        | zero => intro t hm; omega
        | succ fu ih =>
          intro t hm ht
          refine j_iload2 hE dX11_goBack_28 ?_
          refine j_bipush hE (nI 34) dX11_goBack_29 kbipush_34 ?_
          refine j_icmpge hE 57 dX11_goBack_31 (by decide) (fun c31 => ?_) (fun c31 => ?_)
          · skip
            have c31 := (nI_leI (by omega) (by omega)).mp c31
            have hii : t = 34 := by omega
            subst hii
            refine j_aload0 hE dX11_goBack_57 ?_
            refine j_aload0 hE dX11_goBack_58 ?_
            refine j_getr hE fX11_65 dX11_goBack_59 (j := 132) (by first | assumption | rfl) (rfl) ?_
            refine j_bipush hE (nI 35) dX11_goBack_62 kbipush_35 ?_
            refine j_iload1 hE dX11_goBack_64 ?_
            refine j_imul hE dX11_goBack_65 ?_
            refine j_bipush hE (nI 34) dX11_goBack_66 kbipush_34 ?_
            refine j_iadd hE dX11_goBack_68 ?_
            refine j_top (y := nI (35 * k + 34)) (by rw [pk_mul, nI_add]) ?_
            refine j_ialdN hE dX11_goBack_69 (by first | assumption | rfl) (by omega) (by decide) ?_
            refine j_top (y := S 132 (35 * k + 34)) (by rw [upA_ne _ _ (by decide)]) ?_
            refine j_puti hE pX11_281 dX11_goBack_70 (by first | assumption | rfl) rfl rfl ?_
            refine j_aload0 hE dX11_goBack_73 ?_
            refine j_iconst hE (nI 0) dX11_goBack_74 kiconst_0 ?_
            refine j_puti hE pX11_201 dX11_goBack_75 (by first | assumption | rfl) rfl rfl ?_
            refine j_iconst hE (nI 1) dX11_goBack_78 kiconst_1 ?_
            exact j_iret hE hR dX11_goBack_79 (by first
                | (rw [if_neg (fun z => z c7), if_neg c19]; first | done | rfl)) (by first
                | (rw [if_neg (fun z => z c7), if_neg c19, nI_clamp (by omega)]; first | done | rfl))
          · skip
            have c31 : t < 34 := Nat.lt_of_not_le (fun q => c31 (nI_le q (by omega)))
            refine j_aload0 hE dX11_goBack_34 ?_
            refine j_getr hE fX11_22 dX11_goBack_35 (j := 119) (by first | assumption | rfl) (rfl) ?_
            refine j_iload2 hE dX11_goBack_38 ?_
            refine j_aload0 hE dX11_goBack_39 ?_
            refine j_getr hE fX11_65 dX11_goBack_40 (j := 132) (by first | assumption | rfl) (rfl) ?_
            refine j_bipush hE (nI 35) dX11_goBack_43 kbipush_35 ?_
            refine j_iload1 hE dX11_goBack_45 ?_
            refine j_imul hE dX11_goBack_46 ?_
            refine j_iload2 hE dX11_goBack_47 ?_
            refine j_iadd hE dX11_goBack_48 ?_
            refine j_top (y := nI (35 * k + t)) (by rw [pk_mul, nI_add]) ?_
            refine j_ialdN hE dX11_goBack_49 (by first | assumption | rfl) (by omega) (by decide) ?_
            refine j_top (y := (fun j => S 132 (35 * k + j)) t) (by rw [upA_ne _ _ (by decide)]) ?_
            refine j_iastN hE dX11_goBack_50 (by first | assumption | rfl) (by omega) (by decide) ?_
            refine j_iinc2 hE (nI (t + 1)) dX11_goBack_51 (nI_inc _) rfl ?_
            refine j_goto hE 28 dX11_goBack_54 (by decide) ?_
            exact j_cast (by rw [up2_upA, cpN_s]) rfl (ih (t + 1) (by omega) (by omega))
      exact j_cast (by rw [cpN_0, upA_self]) rfl (L28 35 0 (by omega) (by omega))
    · skip
      refine j_ldcw hE dX11_goBack_22 kX11_269 ?_
      exact j_iret hE hR dX11_goBack_25 (by first
          | (rw [if_neg (fun z => z c7), if_pos c19]; first | done | rfl)) (by first
          | (rw [if_neg (fun z => z c7), if_pos c19]; first | done | rfl))
  · skip
    refine j_ldc hE dX11_goBack_10 kX11_244 ?_
    exact j_iret hE hR dX11_goBack_12 (by first
        | (rw [if_pos c7]; first | done | rfl)) (by first
        | (rw [if_pos c7]; first | done | rfl))

