set_option maxHeartbeats 4000000 in
set_option maxRecDepth 100000 in
theorem c_X11_shown (l : Launch) (C : JC) (hC : JInj C) (S : Sto) (hh ww nl nc : Nat) (h : MW S hh ww nl nc) (n r : Int32) : Con l C yX11_shown cX11_shown 3 (some .int) 7 [.ref (C.2.1 114), .int n, .int r] S (some (.int (if ¬ (inP n.toInt64 (lN 0) 60 ∧ inP r.toInt64 (lN 0) 9) then -1000000002 else if hh = 0 then -1000000003 else sbV S hh ww nl nc r n.toNatClampNeg))) (if ¬ (inP n.toInt64 (lN 0) 60 ∧ inP r.toInt64 (lN 0) 9) then S else if hh = 0 then S else sbS S hh ww nl nc r n.toNatClampNeg) := by
  refine con_of RX11 0 [some (.ref (C.2.1 114)), some (.int n), some (.int r)] (by decide) rfl hC (Nat.le_of_ble_eq_true rfl) rfl (Nat.le_of_ble_eq_true rfl) (fun E hE hR => ?_)
  refine j_iload1 hE dX11_shown_0 ?_
  refine j_i2l hE dX11_shown_1 ?_
  refine j_lconst hE (lN 0) dX11_shown_2 rfl ?_
  refine j_ldc2 hE dX11_shown_3 kX11_265 ?_
  refine j_S3i hE mX11_82 (c_X11_in l C hC _ _ _ _) dX11_shown_6 (by decide) (Nat.le_of_ble_eq_true rfl) ?_
  first | refine j_ifeqP hE 24 dX11_shown_9 (by decide) (fun c9 => ?_) (fun c9 => ?_) | refine j_ifeq hE 24 dX11_shown_9 (by decide) (fun c9 => ?_) (fun c9 => ?_)
  · skip
    refine j_ldc hE dX11_shown_24 kX11_97 ?_
    exact j_iret hE hR dX11_shown_26 (by first
        | (rw [if_pos (fun z => c9 z.1)]; first | done | rfl)
        | (rw [if_pos (fun z => c21 z.2)]; first | done | rfl)) (by first
        | (rw [if_pos (fun z => c9 z.1)]; first | done | rfl)
        | (rw [if_pos (fun z => c21 z.2)]; first | done | rfl))
  · skip
    refine j_iload2 hE dX11_shown_12 ?_
    refine j_i2l hE dX11_shown_13 ?_
    refine j_lconst hE (lN 0) dX11_shown_14 rfl ?_
    refine j_ldc2 hE dX11_shown_15 kX11_267 ?_
    refine j_S3i hE mX11_82 (c_X11_in l C hC _ _ _ _) dX11_shown_18 (by decide) (Nat.le_of_ble_eq_true rfl) ?_
    first | refine j_ifneP hE 27 dX11_shown_21 (by decide) (fun c21 => ?_) (fun c21 => ?_) | refine j_ifne hE 27 dX11_shown_21 (by decide) (fun c21 => ?_) (fun c21 => ?_)
    · skip
      refine j_aload0 hE dX11_shown_27 ?_
      refine j_geti hE fX11_72 dX11_shown_28 (by first | assumption | rfl) ?_
      refine j_ifne hE 40 dX11_shown_31 (by decide) (fun c31 => ?_) (fun c31 => ?_)
      · skip
        have hh0 : 0 < hh := Nat.pos_of_ne_zero (fun z => c31 (by rw [h.1, z]; rfl))
        obtain ⟨k, hk1, hk2, rfl⟩ := in_n (a := 0) (b := 60) rfl rfl c9
        refine j_aload0 hE dX11_shown_40 ?_
        refine j_iload1 hE dX11_shown_41 ?_
        refine j_iload2 hE dX11_shown_42 ?_
        refine j_V2i hE mX11_297 (c_X11_shownBy l C hC _ hh ww nl nc h hh0 k (by omega) r) dX11_shown_43 (by first | assumption | rfl) (by decide) (Nat.le_of_ble_eq_true rfl) ?_
        exact j_iret hE hR dX11_shown_46 (by first
            | (rw [if_neg (fun z => z ⟨c9, c21⟩), if_pos hh0]; first | done | rfl)
            | (rw [if_neg (fun z => z ⟨c9, c21⟩), if_neg (by omega), nI_clamp (by omega)]; first | done | rfl)) (by first
            | (rw [if_neg (fun z => z ⟨c9, c21⟩), if_pos hh0]; first | done | rfl)
            | (rw [if_neg (fun z => z ⟨c9, c21⟩), if_neg (by omega), nI_clamp (by omega)]; first | done | rfl))
      · skip
        have hh0 : hh = 0 := (nI_z (Nat.le_trans h.2.2.1 (by decide))).mp (by rw [← h.1]; exact c31)
        refine j_ldcw hE dX11_shown_34 kX11_269 ?_
        refine j_goto hE 46 dX11_shown_37 (by decide) ?_
        exact j_iret hE hR dX11_shown_46 (by first
            | (rw [if_neg (fun z => z ⟨c9, c21⟩), if_pos hh0]; first | done | rfl)
            | (rw [if_neg (fun z => z ⟨c9, c21⟩), if_neg (by omega), nI_clamp (by omega)]; first | done | rfl)) (by first
            | (rw [if_neg (fun z => z ⟨c9, c21⟩), if_pos hh0]; first | done | rfl)
            | (rw [if_neg (fun z => z ⟨c9, c21⟩), if_neg (by omega), nI_clamp (by omega)]; first | done | rfl))
    · skip
      refine j_ldc hE dX11_shown_24 kX11_97 ?_
      exact j_iret hE hR dX11_shown_26 (by first
          | (rw [if_pos (fun z => c9 z.1)]; first | done | rfl)
          | (rw [if_pos (fun z => c21 z.2)]; first | done | rfl)) (by first
          | (rw [if_pos (fun z => c9 z.1)]; first | done | rfl)
          | (rw [if_pos (fun z => c21 z.2)]; first | done | rfl))

def fsS (S : Sto) (hh ww nl nc : Nat) (r : Int32) : Nat → Sto
  | 0 => S
  | k + 1 => sbS (fsS S hh ww nl nc r k) hh ww nl nc r k
theorem MW.fs {S : Sto} {hh ww nl nc : Nat} {r : Int32} (h : MW S hh ww nl nc) : ∀ k, MW (fsS S hh ww nl nc r k) hh ww nl nc
  | 0 => h
  | k + 1 => (MW.fs h k).sb
def fsP (S : Sto) (hh ww nl nc : Nat) (m r : Int32) : Nat → Bool := fun k => !decide (bitsF (sbV (fsS S hh ww nl nc r k) hh ww nl nc r k) 25 < m)
set_option maxHeartbeats 4000000 in
set_option maxRecDepth 100000 in
theorem c_X11_first (l : Launch) (C : JC) (hC : JInj C) (S : Sto) (hh ww nl nc : Nat) (h : MW S hh ww nl nc) (m r : Int32) : Con l C yX11_first cX11_first 4 (some .int) 7 [.ref (C.2.1 114), .int m, .int r] S (some (.int (if ¬ (inP m.toInt64 (lN 0) 25 ∧ inP r.toInt64 (lN 0) 9) then -1000000002 else if hh = 0 then -1000000003 else (if fnd (fsP S hh ww nl nc m r) 61 0 = 61 then -1 else nI (fnd (fsP S hh ww nl nc m r) 61 0))))) (if ¬ (inP m.toInt64 (lN 0) 25 ∧ inP r.toInt64 (lN 0) 9) then S else if hh = 0 then S else fsS S hh ww nl nc r (min (fnd (fsP S hh ww nl nc m r) 61 0 + 1) 61)) := by
  refine con_of RX11 1 [some (.ref (C.2.1 114)), some (.int m), some (.int r), none] (by decide) rfl hC (Nat.le_of_ble_eq_true rfl) rfl (Nat.le_of_ble_eq_true rfl) (fun E hE hR => ?_)
  refine j_iload1 hE dX11_first_0 ?_
  refine j_i2l hE dX11_first_1 ?_
  refine j_lconst hE (lN 0) dX11_first_2 rfl ?_
  refine j_ldc2 hE dX11_first_3 kX11_300 ?_
  refine j_S3i hE mX11_82 (c_X11_in l C hC _ _ _ _) dX11_first_6 (by decide) (Nat.le_of_ble_eq_true rfl) ?_
  first | refine j_ifeqP hE 24 dX11_first_9 (by decide) (fun c9 => ?_) (fun c9 => ?_) | refine j_ifeq hE 24 dX11_first_9 (by decide) (fun c9 => ?_) (fun c9 => ?_)
  · skip
    refine j_ldc hE dX11_first_24 kX11_97 ?_
    exact j_iret hE hR dX11_first_26 (by first
        | (rw [if_pos (fun z => c9 z.1)]; first | done | rfl)
        | (rw [if_pos (fun z => c21 z.2)]; first | done | rfl)) (by first
        | (rw [if_pos (fun z => c9 z.1)]; first | done | rfl)
        | (rw [if_pos (fun z => c21 z.2)]; first | done | rfl))
  · skip
    refine j_iload2 hE dX11_first_12 ?_
    refine j_i2l hE dX11_first_13 ?_
    refine j_lconst hE (lN 0) dX11_first_14 rfl ?_
    refine j_ldc2 hE dX11_first_15 kX11_267 ?_
    refine j_S3i hE mX11_82 (c_X11_in l C hC _ _ _ _) dX11_first_18 (by decide) (Nat.le_of_ble_eq_true rfl) ?_
    first | refine j_ifneP hE 27 dX11_first_21 (by decide) (fun c21 => ?_) (fun c21 => ?_) | refine j_ifne hE 27 dX11_first_21 (by decide) (fun c21 => ?_) (fun c21 => ?_)
    · skip
      refine j_aload0 hE dX11_first_27 ?_
      refine j_geti hE fX11_72 dX11_first_28 (by first | assumption | rfl) ?_
      refine j_ifne hE 38 dX11_first_31 (by decide) (fun c31 => ?_) (fun c31 => ?_)
      · skip
        have hh0 : 0 < hh := Nat.pos_of_ne_zero (fun z => c31 (by rw [h.1, z]; rfl))
        refine j_iconst hE (nI 0) dX11_first_38 kiconst_0 ?_
        refine j_istore3 hE dX11_first_39 rfl ?_
        have L40 : ∀ (fu : Nat) (i : Nat), 61 - i < fu → (i ≤ 61) → (fnd (fsP S hh ww nl nc m r) (61 - i) i = fnd (fsP S hh ww nl nc m r) 61 0) → J C E (fsS S hh ww nl nc r i) 40 [some (.ref (C.2.1 114)), some (.int m), some (.int r), some (.int (nI i))] [] := by
          intro fu
          induction fu with
          | zero => intro i hm; omega
          | succ fu ih =>
            intro i hm hi hq
            refine j_iload3 hE dX11_first_40 ?_
            refine j_bipush hE (nI 60) dX11_first_41 kbipush_60 ?_
            refine j_icmpgt hE 67 dX11_first_43 (by decide) (fun c43 => ?_) (fun c43 => ?_)
            · skip
              have c43 : 60 < i := (nI_ltI (by omega) (by omega)).mp c43
              have hii : i = 61 := by omega
              subst hii
              rw [show 61 - 61 = 0 from rfl, fnd] at hq
              refine j_iconst hE (-1) dX11_first_67 kiconst_m1 ?_
              exact j_iret hE hR dX11_first_68 (by rw [if_neg (fun z => z ⟨c9, c21⟩), if_neg (by omega), ← hq, if_pos rfl]) (by rw [if_neg (fun z => z ⟨c9, c21⟩), if_neg (by omega), ← hq]; rfl)
            · skip
              have c43 : i ≤ 60 := Nat.le_of_not_lt (fun q => c43 (nI_lt q (by omega)))
              refine j_aload0 hE dX11_first_46 ?_
              refine j_iload3 hE dX11_first_47 ?_
              refine j_iload2 hE dX11_first_48 ?_
              refine j_V2i hE mX11_297 (c_X11_shownBy l C hC _ hh ww nl nc (MW.fs h i) hh0 i (by omega) r) dX11_first_49 (by first | assumption | rfl) (by decide) (Nat.le_of_ble_eq_true rfl) ?_
              refine j_S1i hE mX11_207 (c_X11_bits l C hC _ _) dX11_first_52 (by decide) (Nat.le_of_ble_eq_true rfl) ?_
              refine j_iload1 hE dX11_first_55 ?_
              refine j_icmplt hE 61 dX11_first_56 (by decide) (fun c56 => ?_) (fun c56 => ?_)
              · skip
                refine j_iinc3 hE (nI (i + 1)) dX11_first_61 (nI_inc _) rfl ?_
                refine j_goto hE 40 dX11_first_64 (by decide) ?_
                exact ih (i + 1) (by omega) (by omega) (by rw [← hq, show 61 - i = 61 - (i + 1) + 1 by omega, fnd, if_neg (by simp [fsP, c56])])
              · skip
                have hq2 : i = fnd (fsP S hh ww nl nc m r) 61 0 := by rw [← hq, show 61 - i = 61 - (i + 1) + 1 by omega, fnd, if_pos (by simp [fsP, c56])]
                refine j_iload3 hE dX11_first_59 ?_
                exact j_iret hE hR dX11_first_60 (by rw [if_neg (fun z => z ⟨c9, c21⟩), if_neg (by omega), ← hq2, if_neg (by omega)]) (by rw [if_neg (fun z => z ⟨c9, c21⟩), if_neg (by omega), ← hq2, show min (i + 1) 61 = i + 1 by omega]; rfl)
        exact L40 62 0 (by omega) (by omega) rfl
      · skip
        have hh0 : hh = 0 := (nI_z (Nat.le_trans h.2.2.1 (by decide))).mp (by rw [← h.1]; exact c31)
        refine j_ldcw hE dX11_first_34 kX11_269 ?_
        exact j_iret hE hR dX11_first_37 (by first
            | (rw [if_neg (fun z => z ⟨c9, c21⟩), if_pos hh0]; first | done | rfl)) (by first
            | (rw [if_neg (fun z => z ⟨c9, c21⟩), if_pos hh0]; first | done | rfl))
    · skip
      refine j_ldc hE dX11_first_24 kX11_97 ?_
      exact j_iret hE hR dX11_first_26 (by first
          | (rw [if_pos (fun z => c9 z.1)]; first | done | rfl)
          | (rw [if_pos (fun z => c21 z.2)]; first | done | rfl)) (by first
          | (rw [if_pos (fun z => c9 z.1)]; first | done | rfl)
          | (rw [if_pos (fun z => c21 z.2)]; first | done | rfl))

/-! looks tried -/
def slT (S : Sto) (hh ww nl nc : Nat) (r set : Int32) : Nat → Sto
  | 0 => bfS S
  | k + 1 => if hasM set (nI k) then mlookS (passS (slT S hh ww nl nc r set k) (hh * ww) ww nl nc r) (hh * ww) else passS (slT S hh ww nl nc r set k) (hh * ww) ww nl nc r
def slV (S : Sto) (hh ww nl nc : Nat) (r set : Int32) (n : Nat) : Int32 := bitsF (mshF (slT S hh ww nl nc r set n 119) (hh * ww)) 25
def slS (S : Sto) (hh ww nl nc : Nat) (r set : Int32) (n : Nat) : Sto := bkS (slT S hh ww nl nc r set n)
theorem MW.sl {S : Sto} {hh ww nl nc : Nat} {r set : Int32} (h : MW S hh ww nl nc) : ∀ k, MW (slT S hh ww nl nc r set k) hh ww nl nc
  | 0 => h.bf
  | k + 1 => by
    unfold slT
    split
    · exact (MW.sl h k).pass.look
    · exact (MW.sl h k).pass
theorem slT_o {S : Sto} {hh ww nl nc : Nat} {r set : Int32} {i : Nat} (h : i < 119 ∨ (119 < i ∧ i < 125) ∨ 127 < i) (h2 : i ≠ 129) : ∀ k, slT S hh ww nl nc r set k i = S i
  | 0 => by rw [slT, bfS, upA_ne _ _ h2]
  | k + 1 => by
    unfold slT
    split
    · rw [mlook_o (by omega), pass_o h, slT_o h h2 k]
    · rw [pass_o h, slT_o h h2 k]
theorem slT_b {S : Sto} {hh ww nl nc : Nat} {r set : Int32} : ∀ k, slT S hh ww nl nc r set k 129 = bfS S 129
  | 0 => rfl
  | k + 1 => by
    unfold slT
    split
    · rw [mlook_o (by decide), pass_o (by omega), slT_b k]
    · rw [pass_o (by omega), slT_b k]
theorem sl_now {S : Sto} {hh ww nl nc : Nat} {r set : Int32} {n k : Nat} (hk : k < 34) : slS S hh ww nl nc r set n 119 k = S 119 k := by
  unfold slS bkS
  rw [upA_same]
  unfold cpN
  rw [if_pos hk, slT_b]
  unfold bfS
  rw [upA_same]
  unfold cpN
  rw [if_pos hk]
theorem sl_o {S : Sto} {hh ww nl nc : Nat} {r set : Int32} {n i : Nat} (h : i < 119 ∨ (119 < i ∧ i < 125) ∨ 129 < i) : slS S hh ww nl nc r set n i = S i := by
  unfold slS bkS
  rw [upA_ne _ _ (by omega), slT_o (by omega) (by omega)]
theorem MW.sls {S : Sto} {hh ww nl nc : Nat} {r set : Int32} {n : Nat} (h : MW S hh ww nl nc) : MW (slS S hh ww nl nc r set n) hh ww nl nc :=
  h.of (fun k _ => by rw [sl_o (by omega)]) (sl_o (by omega)) (sl_o (by omega)) (fun c hc => sl_now (by have := h.2.2.2.2.2.2.1; omega))
set_option maxHeartbeats 4000000 in
set_option maxRecDepth 100000 in
theorem c_X11_shownByLooks (l : Launch) (C : JC) (hC : JInj C) (S : Sto) (hh ww nl nc : Nat) (h : MW S hh ww nl nc) (h0 : 0 < hh) (n : Nat) (hn : n < 2 ^ 31) (r set : Int32) : Con l C yX11_shownByLooks cX11_shownByLooks 5 (some .int) 6 [.ref (C.2.1 114), .int (nI n), .int r, .int set] S (some (.int (slV S hh ww nl nc r set n))) (slS S hh ww nl nc r set n) := by
  refine con_of RX11 1 [some (.ref (C.2.1 114)), some (.int (nI n)), some (.int r), some (.int set), none] (by decide) rfl hC (Nat.le_of_ble_eq_true rfl) rfl (Nat.le_of_ble_eq_true rfl) (fun E hE hR => ?_)
  refine j_aload0 hE dX11_shownByLooks_0 ?_
  refine j_getr hE fX11_22 dX11_shownByLooks_1 (j := 119) (by first | assumption | rfl) (rfl) ?_
  refine j_aload0 hE dX11_shownByLooks_4 ?_
  refine j_getr hE fX11_56 dX11_shownByLooks_5 (j := 129) (by first | assumption | rfl) (rfl) ?_
  refine j_bipush hE (nI 34) dX11_shownByLooks_8 kbipush_34 ?_
  refine j_S3v hE mX11_188 (c_X11_copyRow l C hC _ 119 129 34 34 34 rfl rfl (by decide) (by decide) (by decide) (by decide) (by decide)) dX11_shownByLooks_10 (by decide) (Nat.le_of_ble_eq_true rfl) ?_
  refine j_iconst hE (nI 0) dX11_shownByLooks_13 kiconst_0 ?_
  refine j_istore4 hE dX11_shownByLooks_14 rfl ?_
  have L16 : ∀ (fu : Nat) (i : Nat), n - i < fu → (i ≤ n) → J C E (slT S hh ww nl nc r set i) 16 [some (.ref (C.2.1 114)), some (.int (nI n)), some (.int r), some (.int set), some (.int (nI i))] [] := by
    intro fu
    induction fu with
    | zero => intro i hm; omega
    | succ fu ih =>
      intro i hm hi
      refine j_iload4 hE dX11_shownByLooks_16 ?_
      refine j_iload1 hE dX11_shownByLooks_18 ?_
      refine j_icmpge hE 46 dX11_shownByLooks_19 (by decide) (fun c19 => ?_) (fun c19 => ?_)
      · skip
        have c19 := (nI_leI (by omega) (by omega)).mp c19
        have hii : n = i := by omega
        subst hii
        refine j_aload0 hE dX11_shownByLooks_46 ?_
        refine j_V0i hE mX11_204 (c_X11_shows l C hC _ (hh * ww) (MW.cl (MW.sl h n)) h.le) dX11_shownByLooks_47 (by first | assumption | rfl) (by decide) (Nat.le_of_ble_eq_true rfl) ?_
        refine j_S1i hE mX11_207 (c_X11_bits l C hC _ _) dX11_shownByLooks_50 (by decide) (Nat.le_of_ble_eq_true rfl) ?_
        refine j_istore4 hE dX11_shownByLooks_53 rfl ?_
        refine j_aload0 hE dX11_shownByLooks_55 ?_
        refine j_getr hE fX11_56 dX11_shownByLooks_56 (j := 129) (by first | assumption | rfl) (rfl) ?_
        refine j_aload0 hE dX11_shownByLooks_59 ?_
        refine j_getr hE fX11_22 dX11_shownByLooks_60 (j := 119) (by first | assumption | rfl) (rfl) ?_
        refine j_bipush hE (nI 34) dX11_shownByLooks_63 kbipush_34 ?_
        refine j_S3v hE mX11_188 (c_X11_copyRow l C hC _ 129 119 34 34 34 rfl rfl (by decide) (by decide) (by decide) (by decide) (by decide)) dX11_shownByLooks_65 (by decide) (Nat.le_of_ble_eq_true rfl) ?_
        refine j_iload4 hE dX11_shownByLooks_68 ?_
        exact j_iret hE hR dX11_shownByLooks_70 (rfl) (rfl)
      · skip
        have c19 : i < n := Nat.lt_of_not_le (fun q => c19 (nI_le q (by omega)))
        refine j_aload0 hE dX11_shownByLooks_22 ?_
        refine j_iload2 hE dX11_shownByLooks_23 ?_
        refine j_V1v hE mX11_273 (cM_pass l C hC _ hh ww nl nc (MW.sl h i) h0 r) dX11_shownByLooks_24 (by first | assumption | rfl) (by decide) (Nat.le_of_ble_eq_true rfl) ?_
        refine j_iload3 hE dX11_shownByLooks_27 ?_
        refine j_iload4 hE dX11_shownByLooks_28 ?_
        refine j_S2i hE mX11_213 (c_X11_has l C hC _ _ _) dX11_shownByLooks_30 (by decide) (Nat.le_of_ble_eq_true rfl) ?_
        first | refine j_ifeqP hE 40 dX11_shownByLooks_33 (by decide) (fun c33 => ?_) (fun c33 => ?_) | refine j_ifeq hE 40 dX11_shownByLooks_33 (by decide) (fun c33 => ?_) (fun c33 => ?_)
        · skip
          refine j_iinc4 hE (nI (i + 1)) dX11_shownByLooks_40 (nI_inc _) rfl ?_
          refine j_goto hE 16 dX11_shownByLooks_43 (by decide) ?_
          exact j_cast (by rw [slT]; first | (rw [if_pos c33]; done) | (rw [if_neg c33]; done)) rfl (ih (i + 1) (by omega) (by omega))
        · skip
          refine j_aload0 hE dX11_shownByLooks_36 ?_
          refine j_V0v hE mX11_276 (c_X11_lookNow l C hC _ (hh * ww) (MW.sl h i).pass.cl h.le (MW.sl h i).pass.w) dX11_shownByLooks_37 (by first | assumption | rfl) (by decide) (Nat.le_of_ble_eq_true rfl) ?_
          refine j_iinc4 hE (nI (i + 1)) dX11_shownByLooks_40 (nI_inc _) rfl ?_
          refine j_goto hE 16 dX11_shownByLooks_43 (by decide) ?_
          exact j_cast (by rw [slT]; first | (rw [if_pos c33]; done) | (rw [if_neg c33]; done)) rfl (ih (i + 1) (by omega) (by omega))
  exact L16 (n + 1) 0 (by omega) (by omega)

def mofR (S : Sto) (hh ww nl nc : Nat) (r m : Int32) (n : Nat) : Nat → Sto × Int32
  | 0 => (S, -1)
  | s + 1 => let q := mofR S hh ww nl nc r m n s
    if q.2 < 0 ∨ ¬ bitsF (nI s) 25 ≤ bitsF q.2 25 then (slS q.1 hh ww nl nc r (nI s) n, if slV q.1 hh ww nl nc r (nI s) n < m then q.2 else nI s) else q
theorem MW.mof {S : Sto} {hh ww nl nc : Nat} {r m : Int32} {n : Nat} (h : MW S hh ww nl nc) : ∀ s, MW (mofR S hh ww nl nc r m n s).1 hh ww nl nc
  | 0 => h
  | s + 1 => by
    unfold mofR
    dsimp only
    split
    · exact (MW.mof h s).sls
    · exact MW.mof h s
theorem shl_p {k : Nat} (h : k ≤ 8) : nI 1 <<< (nI k &&& 31) = nI (2 ^ k) := by
  have : ∀ k, k ≤ 8 → nI 1 <<< (nI k &&& 31) = nI (2 ^ k) := by decide
  exact this k h
set_option maxHeartbeats 4000000 in
set_option maxRecDepth 100000 in
theorem c_X11_often (l : Launch) (C : JC) (hC : JInj C) (S : Sto) (hh ww nl nc : Nat) (h : MW S hh ww nl nc) (n r m w : Int32) : Con l C yX11_often cX11_often 8 (some .int) 8 [.ref (C.2.1 114), .int n, .int r, .int m, .int w] S (some (.int (if ¬ (inP n.toInt64 (lN 1) 8 ∧ inP r.toInt64 (lN 0) 9 ∧ inP m.toInt64 (lN 0) 25 ∧ inP w.toInt64 (lN 0) (lN 1)) then -1000000002 else if hh = 0 then -1000000003 else (if (mofR S hh ww nl nc r m n.toNatClampNeg (2 ^ n.toNatClampNeg)).2 < 0 ∨ w = nI 1 then (mofR S hh ww nl nc r m n.toNatClampNeg (2 ^ n.toNatClampNeg)).2 else bitsF (mofR S hh ww nl nc r m n.toNatClampNeg (2 ^ n.toNatClampNeg)).2 25)))) (if ¬ (inP n.toInt64 (lN 1) 8 ∧ inP r.toInt64 (lN 0) 9 ∧ inP m.toInt64 (lN 0) 25 ∧ inP w.toInt64 (lN 0) (lN 1)) then S else if hh = 0 then S else (mofR S hh ww nl nc r m n.toNatClampNeg (2 ^ n.toNatClampNeg)).1) := by
  refine con_of RX11 3 [some (.ref (C.2.1 114)), some (.int n), some (.int r), some (.int m), some (.int w), none, none, none] (by decide) rfl hC (Nat.le_of_ble_eq_true rfl) rfl (Nat.le_of_ble_eq_true rfl) (fun E hE hR => ?_)
  refine j_iload1 hE dX11_often_0 ?_
  refine j_i2l hE dX11_often_1 ?_
  refine j_lconst hE (lN 1) dX11_often_2 rfl ?_
  refine j_ldc2 hE dX11_often_3 kX11_304 ?_
  refine j_S3i hE mX11_82 (c_X11_in l C hC _ _ _ _) dX11_often_6 (by decide) (Nat.le_of_ble_eq_true rfl) ?_
  first | refine j_ifeqP hE 47 dX11_often_9 (by decide) (fun c9 => ?_) (fun c9 => ?_) | refine j_ifeq hE 47 dX11_often_9 (by decide) (fun c9 => ?_) (fun c9 => ?_)
  · skip
    refine j_ldc hE dX11_often_47 kX11_97 ?_
    exact j_iret hE hR dX11_often_49 (by first
        | (rw [if_pos (fun z => c9 z.1)]; first | done | rfl)
        | (rw [if_pos (fun z => c21 z.2.1)]; first | done | rfl)
        | (rw [if_pos (fun z => c33 z.2.2.1)]; first | done | rfl)
        | (rw [if_pos (fun z => c44 z.2.2.2)]; first | done | rfl)) (by first
        | (rw [if_pos (fun z => c9 z.1)]; first | done | rfl)
        | (rw [if_pos (fun z => c21 z.2.1)]; first | done | rfl)
        | (rw [if_pos (fun z => c33 z.2.2.1)]; first | done | rfl)
        | (rw [if_pos (fun z => c44 z.2.2.2)]; first | done | rfl))
  · skip
    refine j_iload2 hE dX11_often_12 ?_
    refine j_i2l hE dX11_often_13 ?_
    refine j_lconst hE (lN 0) dX11_often_14 rfl ?_
    refine j_ldc2 hE dX11_often_15 kX11_267 ?_
    refine j_S3i hE mX11_82 (c_X11_in l C hC _ _ _ _) dX11_often_18 (by decide) (Nat.le_of_ble_eq_true rfl) ?_
    first | refine j_ifeqP hE 47 dX11_often_21 (by decide) (fun c21 => ?_) (fun c21 => ?_) | refine j_ifeq hE 47 dX11_often_21 (by decide) (fun c21 => ?_) (fun c21 => ?_)
    · skip
      refine j_ldc hE dX11_often_47 kX11_97 ?_
      exact j_iret hE hR dX11_often_49 (by first
          | (rw [if_pos (fun z => c9 z.1)]; first | done | rfl)
          | (rw [if_pos (fun z => c21 z.2.1)]; first | done | rfl)
          | (rw [if_pos (fun z => c33 z.2.2.1)]; first | done | rfl)
          | (rw [if_pos (fun z => c44 z.2.2.2)]; first | done | rfl)) (by first
          | (rw [if_pos (fun z => c9 z.1)]; first | done | rfl)
          | (rw [if_pos (fun z => c21 z.2.1)]; first | done | rfl)
          | (rw [if_pos (fun z => c33 z.2.2.1)]; first | done | rfl)
          | (rw [if_pos (fun z => c44 z.2.2.2)]; first | done | rfl))
    · skip
      refine j_iload3 hE dX11_often_24 ?_
      refine j_i2l hE dX11_often_25 ?_
      refine j_lconst hE (lN 0) dX11_often_26 rfl ?_
      refine j_ldc2 hE dX11_often_27 kX11_300 ?_
      refine j_S3i hE mX11_82 (c_X11_in l C hC _ _ _ _) dX11_often_30 (by decide) (Nat.le_of_ble_eq_true rfl) ?_
      first | refine j_ifeqP hE 47 dX11_often_33 (by decide) (fun c33 => ?_) (fun c33 => ?_) | refine j_ifeq hE 47 dX11_often_33 (by decide) (fun c33 => ?_) (fun c33 => ?_)
      · skip
        refine j_ldc hE dX11_often_47 kX11_97 ?_
        exact j_iret hE hR dX11_often_49 (by first
            | (rw [if_pos (fun z => c9 z.1)]; first | done | rfl)
            | (rw [if_pos (fun z => c21 z.2.1)]; first | done | rfl)
            | (rw [if_pos (fun z => c33 z.2.2.1)]; first | done | rfl)
            | (rw [if_pos (fun z => c44 z.2.2.2)]; first | done | rfl)) (by first
            | (rw [if_pos (fun z => c9 z.1)]; first | done | rfl)
            | (rw [if_pos (fun z => c21 z.2.1)]; first | done | rfl)
            | (rw [if_pos (fun z => c33 z.2.2.1)]; first | done | rfl)
            | (rw [if_pos (fun z => c44 z.2.2.2)]; first | done | rfl))
      · skip
        refine j_iload4 hE dX11_often_36 ?_
        refine j_i2l hE dX11_often_38 ?_
        refine j_lconst hE (lN 0) dX11_often_39 rfl ?_
        refine j_lconst hE (lN 1) dX11_often_40 rfl ?_
        refine j_S3i hE mX11_82 (c_X11_in l C hC _ _ _ _) dX11_often_41 (by decide) (Nat.le_of_ble_eq_true rfl) ?_
        first | refine j_ifneP hE 50 dX11_often_44 (by decide) (fun c44 => ?_) (fun c44 => ?_) | refine j_ifne hE 50 dX11_often_44 (by decide) (fun c44 => ?_) (fun c44 => ?_)
        · skip
          refine j_aload0 hE dX11_often_50 ?_
          refine j_geti hE fX11_72 dX11_often_51 (by first | assumption | rfl) ?_
          refine j_ifne hE 61 dX11_often_54 (by decide) (fun c54 => ?_) (fun c54 => ?_)
          · skip
            have hh0 : 0 < hh := Nat.pos_of_ne_zero (fun z => c54 (by rw [h.1, z]; rfl))
            obtain ⟨k, hk1, hk2, rfl⟩ := in_n (a := 1) (b := 8) rfl rfl c9
            have hp2 : 2 ^ k ≤ 2 ^ 8 := Nat.pow_le_pow_right (by decide) hk2
            have hp3 : (2 : Nat) ^ 8 = 256 := rfl
            refine j_iconst hE (-1) dX11_often_61 kiconst_m1 ?_
            refine j_istore5 hE dX11_often_62 rfl ?_
            refine j_iconst hE (nI 0) dX11_often_64 kiconst_0 ?_
            refine j_istore6 hE dX11_often_65 rfl ?_
            have L67 : ∀ (fu : Nat) (s : Nat) (x7 : Option Value), 2 ^ k - s < fu → (s ≤ 2 ^ k) → J C E (mofR S hh ww nl nc r m k s).1 67 [some (.ref (C.2.1 114)), some (.int (nI k)), some (.int r), some (.int m), some (.int w), some (.int (mofR S hh ww nl nc r m k s).2), some (.int (nI s)), x7] [] := by
              intro fu
              induction fu with
              | zero => intro s x7 hm; omega
              | succ fu ih =>
                intro s x7 hm hi
                refine j_iload6 hE dX11_often_67 ?_
                refine j_iconst hE (nI 1) dX11_often_69 kiconst_1 ?_
                refine j_iload1 hE dX11_often_70 ?_
                refine j_ishl hE dX11_often_71 ?_
                refine j_icmpge hE 132 dX11_often_72 (by decide) (fun c72 => ?_) (fun c72 => ?_)
                · skip
                  rw [shl_p (by omega)] at c72
                  have c72 := (nI_leI (by omega) (by omega)).mp c72
                  have hii : 2 ^ k = s := by omega
                  subst hii
                  refine j_iload5 hE dX11_often_132 ?_
                  refine j_iflt hE 143 dX11_often_134 (by decide) (fun c134 => ?_) (fun c134 => ?_)
                  · skip
                    refine j_iload5 hE dX11_often_143 ?_
                    refine j_goto hE 153 dX11_often_145 (by decide) ?_
                    exact j_iret hE hR dX11_often_153 (by
                        rw [if_neg (fun z => z ⟨c9, c21, c33, c44⟩), if_neg (by omega), nI_clamp (by omega)]
                        first
                        | (rw [if_pos (Or.inl c134)]; done)
                        | (rw [if_pos (Or.inr c140)]; done)
                        | (rw [if_neg (fun z => z.elim c134 c140)]; done)) (by rw [if_neg (fun z => z ⟨c9, c21, c33, c44⟩), if_neg (by omega), nI_clamp (by omega)])
                  · skip
                    refine j_iload4 hE dX11_often_137 ?_
                    refine j_iconst hE (nI 1) dX11_often_139 kiconst_1 ?_
                    refine j_icmpne hE 148 dX11_often_140 (by decide) (fun c140 => ?_) (fun c140 => ?_)
                    · skip
                      refine j_iload5 hE dX11_often_148 ?_
                      refine j_S1i hE mX11_207 (c_X11_bits l C hC _ _) dX11_often_150 (by decide) (Nat.le_of_ble_eq_true rfl) ?_
                      exact j_iret hE hR dX11_often_153 (by
                          rw [if_neg (fun z => z ⟨c9, c21, c33, c44⟩), if_neg (by omega), nI_clamp (by omega)]
                          first
                          | (rw [if_pos (Or.inl c134)]; done)
                          | (rw [if_pos (Or.inr c140)]; done)
                          | (rw [if_neg (fun z => z.elim c134 c140)]; done)) (by rw [if_neg (fun z => z ⟨c9, c21, c33, c44⟩), if_neg (by omega), nI_clamp (by omega)])
                    · skip
                      refine j_iload5 hE dX11_often_143 ?_
                      refine j_goto hE 153 dX11_often_145 (by decide) ?_
                      exact j_iret hE hR dX11_often_153 (by
                          rw [if_neg (fun z => z ⟨c9, c21, c33, c44⟩), if_neg (by omega), nI_clamp (by omega)]
                          first
                          | (rw [if_pos (Or.inl c134)]; done)
                          | (rw [if_pos (Or.inr c140)]; done)
                          | (rw [if_neg (fun z => z.elim c134 c140)]; done)) (by rw [if_neg (fun z => z ⟨c9, c21, c33, c44⟩), if_neg (by omega), nI_clamp (by omega)])
                · skip
                  rw [shl_p (by omega)] at c72
                  have c72 : s < 2 ^ k := Nat.lt_of_not_le (fun q => c72 (nI_le q (by omega)))
                  refine j_iload5 hE dX11_often_75 ?_
                  refine j_iflt hE 93 dX11_often_77 (by decide) (fun c77 => ?_) (fun c77 => ?_)
                  · skip
                    refine j_iconst hE (nI 1) dX11_often_93 kiconst_1 ?_
                    refine j_goto hE 98 dX11_often_94 (by decide) ?_
                    refine j_istore7 hE dX11_often_98 rfl ?_
                    refine j_iload7 hE dX11_often_100 ?_
                    refine j_ifeq hE 122 dX11_often_102 (by decide) (fun c102 => ?_) (fun c102 => ?_)
                    · skip
                      exact absurd c102 (by decide)
                    · skip
                      refine j_aload0 hE dX11_often_105 ?_
                      refine j_iload1 hE dX11_often_106 ?_
                      refine j_iload2 hE dX11_often_107 ?_
                      refine j_iload6 hE dX11_often_108 ?_
                      refine j_V3i hE mX11_306 (c_X11_shownByLooks l C hC _ hh ww nl nc (MW.mof h s) hh0 k (by omega) r _) dX11_often_110 (by first | assumption | rfl) (by decide) (Nat.le_of_ble_eq_true rfl) ?_
                      refine j_iload3 hE dX11_often_113 ?_
                      refine j_icmplt hE 122 dX11_often_114 (by decide) (fun c114 => ?_) (fun c114 => ?_)
                      · skip
                        refine j_iload5 hE dX11_often_122 ?_
                        refine j_istore5 hE dX11_often_124 rfl ?_
                        refine j_iinc6 hE (nI (s + 1)) dX11_often_126 (nI_inc _) rfl ?_
                        refine j_goto hE 67 dX11_often_129 (by decide) ?_
                        exact j_cast (by rw [mofR]; first | (rw [if_pos (Or.inl c77)]; done) | (rw [if_pos (Or.inr c90)]; done) | (rw [if_neg (fun z => z.elim c77 (fun y => y c90))]; done)) (by rw [mofR]; first | (rw [if_pos (Or.inl c77), if_pos c114]; done) | (rw [if_pos (Or.inl c77), if_neg c114]; done) | (rw [if_pos (Or.inr c90), if_pos c114]; done) | (rw [if_pos (Or.inr c90), if_neg c114]; done) | (rw [if_neg (fun z => z.elim c77 (fun y => y c90))]; done)) (ih (s + 1) _ (by omega) (by omega))
                      · skip
                        refine j_iload6 hE dX11_often_117 ?_
                        refine j_goto hE 124 dX11_often_119 (by decide) ?_
                        refine j_istore5 hE dX11_often_124 rfl ?_
                        refine j_iinc6 hE (nI (s + 1)) dX11_often_126 (nI_inc _) rfl ?_
                        refine j_goto hE 67 dX11_often_129 (by decide) ?_
                        exact j_cast (by rw [mofR]; first | (rw [if_pos (Or.inl c77)]; done) | (rw [if_pos (Or.inr c90)]; done) | (rw [if_neg (fun z => z.elim c77 (fun y => y c90))]; done)) (by rw [mofR]; first | (rw [if_pos (Or.inl c77), if_pos c114]; done) | (rw [if_pos (Or.inl c77), if_neg c114]; done) | (rw [if_pos (Or.inr c90), if_pos c114]; done) | (rw [if_pos (Or.inr c90), if_neg c114]; done) | (rw [if_neg (fun z => z.elim c77 (fun y => y c90))]; done)) (ih (s + 1) _ (by omega) (by omega))
                  · skip
                    refine j_iload6 hE dX11_often_80 ?_
                    refine j_S1i hE mX11_207 (c_X11_bits l C hC _ _) dX11_often_82 (by decide) (Nat.le_of_ble_eq_true rfl) ?_
                    refine j_iload5 hE dX11_often_85 ?_
                    refine j_S1i hE mX11_207 (c_X11_bits l C hC _ _) dX11_often_87 (by decide) (Nat.le_of_ble_eq_true rfl) ?_
                    refine j_icmple hE 97 dX11_often_90 (by decide) (fun c90 => ?_) (fun c90 => ?_)
                    · skip
                      refine j_iconst hE (nI 0) dX11_often_97 kiconst_0 ?_
                      refine j_istore7 hE dX11_often_98 rfl ?_
                      refine j_iload7 hE dX11_often_100 ?_
                      refine j_ifeq hE 122 dX11_often_102 (by decide) (fun c102 => ?_) (fun c102 => ?_)
                      · skip
                        refine j_iload5 hE dX11_often_122 ?_
                        refine j_istore5 hE dX11_often_124 rfl ?_
                        refine j_iinc6 hE (nI (s + 1)) dX11_often_126 (nI_inc _) rfl ?_
                        refine j_goto hE 67 dX11_often_129 (by decide) ?_
                        exact j_cast (by rw [mofR]; first | (rw [if_pos (Or.inl c77)]; done) | (rw [if_pos (Or.inr c90)]; done) | (rw [if_neg (fun z => z.elim c77 (fun y => y c90))]; done)) (by rw [mofR]; first | (rw [if_pos (Or.inl c77), if_pos c114]; done) | (rw [if_pos (Or.inl c77), if_neg c114]; done) | (rw [if_pos (Or.inr c90), if_pos c114]; done) | (rw [if_pos (Or.inr c90), if_neg c114]; done) | (rw [if_neg (fun z => z.elim c77 (fun y => y c90))]; done)) (ih (s + 1) _ (by omega) (by omega))
                      · skip
                        exact absurd rfl c102
                    · skip
                      refine j_iconst hE (nI 1) dX11_often_93 kiconst_1 ?_
                      refine j_goto hE 98 dX11_often_94 (by decide) ?_
                      refine j_istore7 hE dX11_often_98 rfl ?_
                      refine j_iload7 hE dX11_often_100 ?_
                      refine j_ifeq hE 122 dX11_often_102 (by decide) (fun c102 => ?_) (fun c102 => ?_)
                      · skip
                        exact absurd c102 (by decide)
                      · skip
                        refine j_aload0 hE dX11_often_105 ?_
                        refine j_iload1 hE dX11_often_106 ?_
                        refine j_iload2 hE dX11_often_107 ?_
                        refine j_iload6 hE dX11_often_108 ?_
                        refine j_V3i hE mX11_306 (c_X11_shownByLooks l C hC _ hh ww nl nc (MW.mof h s) hh0 k (by omega) r _) dX11_often_110 (by first | assumption | rfl) (by decide) (Nat.le_of_ble_eq_true rfl) ?_
                        refine j_iload3 hE dX11_often_113 ?_
                        refine j_icmplt hE 122 dX11_often_114 (by decide) (fun c114 => ?_) (fun c114 => ?_)
                        · skip
                          refine j_iload5 hE dX11_often_122 ?_
                          refine j_istore5 hE dX11_often_124 rfl ?_
                          refine j_iinc6 hE (nI (s + 1)) dX11_often_126 (nI_inc _) rfl ?_
                          refine j_goto hE 67 dX11_often_129 (by decide) ?_
                          exact j_cast (by rw [mofR]; first | (rw [if_pos (Or.inl c77)]; done) | (rw [if_pos (Or.inr c90)]; done) | (rw [if_neg (fun z => z.elim c77 (fun y => y c90))]; done)) (by rw [mofR]; first | (rw [if_pos (Or.inl c77), if_pos c114]; done) | (rw [if_pos (Or.inl c77), if_neg c114]; done) | (rw [if_pos (Or.inr c90), if_pos c114]; done) | (rw [if_pos (Or.inr c90), if_neg c114]; done) | (rw [if_neg (fun z => z.elim c77 (fun y => y c90))]; done)) (ih (s + 1) _ (by omega) (by omega))
                        · skip
                          refine j_iload6 hE dX11_often_117 ?_
                          refine j_goto hE 124 dX11_often_119 (by decide) ?_
                          refine j_istore5 hE dX11_often_124 rfl ?_
                          refine j_iinc6 hE (nI (s + 1)) dX11_often_126 (nI_inc _) rfl ?_
                          refine j_goto hE 67 dX11_often_129 (by decide) ?_
                          exact j_cast (by rw [mofR]; first | (rw [if_pos (Or.inl c77)]; done) | (rw [if_pos (Or.inr c90)]; done) | (rw [if_neg (fun z => z.elim c77 (fun y => y c90))]; done)) (by rw [mofR]; first | (rw [if_pos (Or.inl c77), if_pos c114]; done) | (rw [if_pos (Or.inl c77), if_neg c114]; done) | (rw [if_pos (Or.inr c90), if_pos c114]; done) | (rw [if_pos (Or.inr c90), if_neg c114]; done) | (rw [if_neg (fun z => z.elim c77 (fun y => y c90))]; done)) (ih (s + 1) _ (by omega) (by omega))
            exact L67 (2 ^ k + 1) 0 none (Nat.lt_succ_of_le (Nat.sub_le _ _)) (Nat.zero_le _)
          · skip
            have hh0 : hh = 0 := (nI_z (Nat.le_trans h.2.2.1 (by decide))).mp (by rw [← h.1]; exact c54)
            refine j_ldcw hE dX11_often_57 kX11_269 ?_
            exact j_iret hE hR dX11_often_60 (by first
                | (rw [if_neg (fun z => z ⟨c9, c21, c33, c44⟩), if_pos hh0]; first | done | rfl)) (by first
                | (rw [if_neg (fun z => z ⟨c9, c21, c33, c44⟩), if_pos hh0]; first | done | rfl))
        · skip
          refine j_ldc hE dX11_often_47 kX11_97 ?_
          exact j_iret hE hR dX11_often_49 (by first
              | (rw [if_pos (fun z => c9 z.1)]; first | done | rfl)
              | (rw [if_pos (fun z => c21 z.2.1)]; first | done | rfl)
              | (rw [if_pos (fun z => c33 z.2.2.1)]; first | done | rfl)
              | (rw [if_pos (fun z => c44 z.2.2.2)]; first | done | rfl)) (by first
              | (rw [if_pos (fun z => c9 z.1)]; first | done | rfl)
              | (rw [if_pos (fun z => c21 z.2.1)]; first | done | rfl)
              | (rw [if_pos (fun z => c33 z.2.2.1)]; first | done | rfl)
              | (rw [if_pos (fun z => c44 z.2.2.2)]; first | done | rfl))

def mwrS (S : Sto) (hh ww nl nc : Nat) : Nat → Sto
  | 0 => S
  | r + 1 => sbS (mwrS S hh ww nl nc r) hh ww nl nc (nI r) 1
def mwrF (S : Sto) (hh ww nl nc : Nat) (set : Int32) : Nat → Int32
  | 0 => nI 0
  | r + 1 => mwrF S hh ww nl nc set r ||| (if sbV (mwrS S hh ww nl nc r) hh ww nl nc (nI r) 1 = set then nI 1 <<< (nI r &&& 31) else nI 0)
theorem MW.wr {S : Sto} {hh ww nl nc : Nat} (h : MW S hh ww nl nc) : ∀ k, MW (mwrS S hh ww nl nc k) hh ww nl nc
  | 0 => h
  | k + 1 => (MW.wr h k).sb
theorem mwr_o {S : Sto} {hh ww nl nc i : Nat} (h : i < 119 ∨ (119 < i ∧ i < 125) ∨ 129 < i) : ∀ k, mwrS S hh ww nl nc k i = S i
  | 0 => rfl
  | k + 1 => by rw [mwrS, sb_o h, mwr_o h k]
set_option maxHeartbeats 4000000 in
set_option maxRecDepth 100000 in
theorem c_X11_wasRain (l : Launch) (C : JC) (hC : JInj C) (S : Sto) (hh ww nl nc : Nat) (h : MW S hh ww nl nc) (set : Int32) : Con l C yX11_wasRain cX11_wasRain 4 (some .int) 8 [.ref (C.2.1 114), .int set] S (some (.int (if ¬ inP set.toInt64 (lN 0) ((lN 1 <<< ((mcl S).toInt64 &&& 63)) - lN 1) then -1000000001 else if hh = 0 then -1000000003 else mwrF S hh ww nl nc set 10))) (if ¬ inP set.toInt64 (lN 0) ((lN 1 <<< ((mcl S).toInt64 &&& 63)) - lN 1) then S else if hh = 0 then S else mwrS S hh ww nl nc 10) := by
  refine con_of RX11 2 [some (.ref (C.2.1 114)), some (.int set), none, none] (by decide) rfl hC (Nat.le_of_ble_eq_true rfl) rfl (Nat.le_of_ble_eq_true rfl) (fun E hE hR => ?_)
  refine j_iload1 hE dX11_wasRain_0 ?_
  refine j_i2l hE dX11_wasRain_1 ?_
  refine j_lconst hE (lN 0) dX11_wasRain_2 rfl ?_
  refine j_lconst hE (lN 1) dX11_wasRain_3 rfl ?_
  refine j_aload0 hE dX11_wasRain_4 ?_
  refine j_V0i hE mX11_78 (c_X11_cells l C hC _) dX11_wasRain_5 (by first | assumption | rfl) (by decide) (Nat.le_of_ble_eq_true rfl) ?_
  refine j_lshl hE dX11_wasRain_8 ?_
  refine j_lconst hE (lN 1) dX11_wasRain_9 rfl ?_
  refine j_lsub hE dX11_wasRain_10 ?_
  refine j_S3i hE mX11_82 (c_X11_in l C hC _ _ _ _) dX11_wasRain_11 (by decide) (Nat.le_of_ble_eq_true rfl) ?_
  first | refine j_ifneP hE 20 dX11_wasRain_14 (by decide) (fun c14 => ?_) (fun c14 => ?_) | refine j_ifne hE 20 dX11_wasRain_14 (by decide) (fun c14 => ?_) (fun c14 => ?_)
  · skip
    refine j_aload0 hE dX11_wasRain_20 ?_
    refine j_geti hE fX11_72 dX11_wasRain_21 (by first | assumption | rfl) ?_
    refine j_ifne hE 31 dX11_wasRain_24 (by decide) (fun c24 => ?_) (fun c24 => ?_)
    · skip
      have hh0 : 0 < hh := Nat.pos_of_ne_zero (fun z => c24 (by rw [h.1, z]; rfl))
      refine j_iconst hE (nI 0) dX11_wasRain_31 kiconst_0 ?_
      refine j_istore2 hE dX11_wasRain_32 rfl ?_
      refine j_iconst hE (nI 0) dX11_wasRain_33 kiconst_0 ?_
      refine j_istore3 hE dX11_wasRain_34 rfl ?_
      have L35 : ∀ (fu : Nat) (i : Nat), 10 - i < fu → (i ≤ 10) → J C E (mwrS S hh ww nl nc i) 35 [some (.ref (C.2.1 114)), some (.int set), some (.int (mwrF S hh ww nl nc set i)), some (.int (nI i))] [] := by
        intro fu
        induction fu with
        | zero => intro i hm; omega
        | succ fu ih =>
          intro i hm hi
          refine j_iload3 hE dX11_wasRain_35 ?_
          refine j_bipush hE (nI 10) dX11_wasRain_36 kbipush_10 ?_
          refine j_icmpge hE 67 dX11_wasRain_38 (by decide) (fun c38 => ?_) (fun c38 => ?_)
          · skip
            have c38 := (nI_leI (by omega) (by omega)).mp c38
            have hii : i = 10 := by omega
            subst hii
            refine j_iload2 hE dX11_wasRain_67 ?_
            exact j_iret hE hR dX11_wasRain_68 (by first
                | (rw [if_neg (fun z => z c14), if_neg (by omega)]; first | done | rfl)) (by first
                | (rw [if_neg (fun z => z c14), if_neg (by omega)]; first | done | rfl))
          · skip
            have c38 : i < 10 := Nat.lt_of_not_le (fun q => c38 (nI_le q (by omega)))
            refine j_iload2 hE dX11_wasRain_41 ?_
            refine j_aload0 hE dX11_wasRain_42 ?_
            refine j_iconst hE (nI 1) dX11_wasRain_43 kiconst_1 ?_
            refine j_iload3 hE dX11_wasRain_44 ?_
            refine j_V2i hE mX11_297 (c_X11_shownBy l C hC _ hh ww nl nc (MW.wr h i) hh0 1 (by decide) (nI i)) dX11_wasRain_45 (by first | assumption | rfl) (by decide) (Nat.le_of_ble_eq_true rfl) ?_
            refine j_iload1 hE dX11_wasRain_48 ?_
            refine j_icmpne hE 58 dX11_wasRain_49 (by decide) (fun c49 => ?_) (fun c49 => ?_)
            · skip
              refine j_iconst hE (nI 0) dX11_wasRain_58 kiconst_0 ?_
              refine j_ior hE dX11_wasRain_59 ?_
              refine j_istore2 hE dX11_wasRain_60 rfl ?_
              refine j_iinc3 hE (nI (i + 1)) dX11_wasRain_61 (nI_inc _) rfl ?_
              refine j_goto hE 35 dX11_wasRain_64 (by decide) ?_
              exact j_cast rfl (by rw [mwrF]; first | (rw [if_pos c49]; done) | (rw [if_neg c49]; done)) (ih (i + 1) (by omega) (by omega))
            · skip
              refine j_iconst hE (nI 1) dX11_wasRain_52 kiconst_1 ?_
              refine j_iload3 hE dX11_wasRain_53 ?_
              refine j_ishl hE dX11_wasRain_54 ?_
              refine j_goto hE 59 dX11_wasRain_55 (by decide) ?_
              refine j_ior hE dX11_wasRain_59 ?_
              refine j_istore2 hE dX11_wasRain_60 rfl ?_
              refine j_iinc3 hE (nI (i + 1)) dX11_wasRain_61 (nI_inc _) rfl ?_
              refine j_goto hE 35 dX11_wasRain_64 (by decide) ?_
              exact j_cast rfl (by rw [mwrF]; first | (rw [if_pos c49]; done) | (rw [if_neg c49]; done)) (ih (i + 1) (by omega) (by omega))
      exact L35 11 0 (by omega) (by omega)
    · skip
      have hh0 : hh = 0 := (nI_z (Nat.le_trans h.2.2.1 (by decide))).mp (by rw [← h.1]; exact c24)
      refine j_ldcw hE dX11_wasRain_27 kX11_269 ?_
      exact j_iret hE hR dX11_wasRain_30 (by first
          | (rw [if_neg (fun z => z c14), if_pos hh0]; first | done | rfl)) (by first
          | (rw [if_neg (fun z => z c14), if_pos hh0]; first | done | rfl))
  · skip
    refine j_ldc hE dX11_wasRain_17 kX11_244 ?_
    exact j_iret hE hR dX11_wasRain_19 (by first
        | (rw [if_pos c14]; first | done | rfl)) (by first
        | (rw [if_pos c14]; first | done | rfl))

def mlfF (S : Sto) (v : Int32) : Nat → Int32
  | 0 => nI 0
  | n + 1 => mlfF S v n + (if v &&& (S 118 n ^^^ (-1)) = 0 then nI 1 else nI 0)
def mlfV (S : Sto) (hh ww nl nc nf : Nat) (r : Int32) : Int32 := mlfF S (sbV S hh ww nl nc r 1) nf
set_option maxHeartbeats 4000000 in
set_option maxRecDepth 100000 in
theorem c_X11_leftBy (l : Launch) (C : JC) (hC : JInj C) (S : Sto) (hh ww nl nc : Nat) (h : MW S hh ww nl nc) (nf : Nat) (hnf : S 114 7 = nI nf) (hfl : nf ≤ 5) (h0 : 0 < hh) (r : Int32) : Con l C yX11_leftBy cX11_leftBy 5 (some .int) 7 [.ref (C.2.1 114), .int r] S (some (.int (mlfV S hh ww nl nc nf r))) (sbS S hh ww nl nc r 1) := by
  refine con_of RX11 3 [some (.ref (C.2.1 114)), some (.int r), none, none, none] (by decide) rfl hC (Nat.le_of_ble_eq_true rfl) rfl (Nat.le_of_ble_eq_true rfl) (fun E hE hR => ?_)
  refine j_aload0 hE dX11_leftBy_0 ?_
  refine j_iconst hE (nI 1) dX11_leftBy_1 kiconst_1 ?_
  refine j_iload1 hE dX11_leftBy_2 ?_
  refine j_V2i hE mX11_297 (c_X11_shownBy l C hC _ hh ww nl nc h h0 1 (by decide) r) dX11_leftBy_3 (by first | assumption | rfl) (by decide) (Nat.le_of_ble_eq_true rfl) ?_
  refine j_istore2 hE dX11_leftBy_6 rfl ?_
  refine j_iconst hE (nI 0) dX11_leftBy_7 kiconst_0 ?_
  refine j_istore3 hE dX11_leftBy_8 rfl ?_
  refine j_iconst hE (nI 0) dX11_leftBy_9 kiconst_0 ?_
  refine j_istore4 hE dX11_leftBy_10 rfl ?_
  have L12 : ∀ (fu : Nat) (i : Nat), nf - i < fu → (i ≤ nf) → J C E (sbS S hh ww nl nc r 1) 12 [some (.ref (C.2.1 114)), some (.int r), some (.int (sbV S hh ww nl nc r 1)), some (.int (mlfF S (sbV S hh ww nl nc r 1) i)), some (.int (nI i))] [] := by
    intro fu
    induction fu with
    | zero => intro i hm; omega
    | succ fu ih =>
      intro i hm hi
      refine j_iload4 hE dX11_leftBy_12 ?_
      refine j_aload0 hE dX11_leftBy_14 ?_
      refine j_geti hE fX11_92 dX11_leftBy_15 (by first | assumption | rfl) ?_
      refine j_icmpge hE 49 dX11_leftBy_18 (by decide) (fun c18 => ?_) (fun c18 => ?_)
      · skip
        rw [sb_o (by omega)] at c18
        rw [hnf] at c18
        have c18 := (nI_leI (by omega) (by omega)).mp c18
        have hii : i = nf := by omega
        subst hii
        refine j_iload3 hE dX11_leftBy_49 ?_
        exact j_iret hE hR dX11_leftBy_50 (rfl) (rfl)
      · skip
        rw [sb_o (by omega)] at c18
        rw [hnf] at c18
        have c18 : i < nf := Nat.lt_of_not_le (fun q => c18 (nI_le q (by omega)))
        refine j_iload3 hE dX11_leftBy_21 ?_
        refine j_iload2 hE dX11_leftBy_22 ?_
        refine j_aload0 hE dX11_leftBy_23 ?_
        refine j_getr hE fX11_19 dX11_leftBy_24 (j := 118) (by first | assumption | rfl) (rfl) ?_
        refine j_iload4 hE dX11_leftBy_27 ?_
        refine j_ialdN hE dX11_leftBy_29 (by first | assumption | rfl) (by omega) (by decide) ?_
        refine j_iconst hE (-1) dX11_leftBy_30 kiconst_m1 ?_
        refine j_ixor hE dX11_leftBy_31 ?_
        refine j_iand hE dX11_leftBy_32 ?_
        refine j_ifne hE 40 dX11_leftBy_33 (by decide) (fun c33 => ?_) (fun c33 => ?_)
        · skip
          rw [sb_o (by omega)] at c33
          refine j_iconst hE (nI 0) dX11_leftBy_40 kiconst_0 ?_
          refine j_iadd hE dX11_leftBy_41 ?_
          refine j_istore3 hE dX11_leftBy_42 rfl ?_
          refine j_iinc4 hE (nI (i + 1)) dX11_leftBy_43 (nI_inc _) rfl ?_
          refine j_goto hE 12 dX11_leftBy_46 (by decide) ?_
          exact j_cast rfl (by rw [mlfF]; first | (rw [if_pos c33]; done) | (rw [if_neg c33]; done)) (ih (i + 1) (by omega) (by omega))
        · skip
          rw [sb_o (by omega)] at c33
          refine j_iconst hE (nI 1) dX11_leftBy_36 kiconst_1 ?_
          refine j_goto hE 41 dX11_leftBy_37 (by decide) ?_
          refine j_iadd hE dX11_leftBy_41 ?_
          refine j_istore3 hE dX11_leftBy_42 rfl ?_
          refine j_iinc4 hE (nI (i + 1)) dX11_leftBy_43 (nI_inc _) rfl ?_
          refine j_goto hE 12 dX11_leftBy_46 (by decide) ?_
          exact j_cast rfl (by rw [mlfF]; first | (rw [if_pos c33]; done) | (rw [if_neg c33]; done)) (ih (i + 1) (by omega) (by omega))
  exact L12 (nf + 1) 0 (by omega) (by omega)

def mrtF (S : Sto) (hh ww nl nc nf : Nat) : Nat → Int32 × Int32
  | 0 => (nI 0, mlfV S hh ww nl nc nf (nI 0))
  | r + 1 => let q := mrtF S hh ww nl nc nf r
    let v := mlfV (mwrS S hh ww nl nc (r + 1)) hh ww nl nc nf (nI (r + 1))
    (if q.2 ≤ v then q.1 else nI (r + 1), if q.2 ≤ v then q.2 else v)
set_option maxHeartbeats 4000000 in
set_option maxRecDepth 100000 in
theorem c_X11_rainToTell (l : Launch) (C : JC) (hC : JInj C) (S : Sto) (hh ww nl nc : Nat) (h : MW S hh ww nl nc) (nf : Nat) (hnf : S 114 7 = nI nf) (hfl : nf ≤ 5) (w : Int32) : Con l C yX11_rainToTell cX11_rainToTell 6 (some .int) 9 [.ref (C.2.1 114), .int w] S (some (.int (if ¬ inP w.toInt64 (lN 0) (lN 1) then -1000000002 else if hh = 0 then -1000000003 else (if w = 0 then (mrtF S hh ww nl nc nf 9).1 else (mrtF S hh ww nl nc nf 9).2)))) (if ¬ inP w.toInt64 (lN 0) (lN 1) then S else if hh = 0 then S else mwrS S hh ww nl nc 10) := by
  refine con_of RX11 4 [some (.ref (C.2.1 114)), some (.int w), none, none, none, none] (by decide) rfl hC (Nat.le_of_ble_eq_true rfl) rfl (Nat.le_of_ble_eq_true rfl) (fun E hE hR => ?_)
  refine j_iload1 hE dX11_rainToTell_0 ?_
  refine j_i2l hE dX11_rainToTell_1 ?_
  refine j_lconst hE (lN 0) dX11_rainToTell_2 rfl ?_
  refine j_lconst hE (lN 1) dX11_rainToTell_3 rfl ?_
  refine j_S3i hE mX11_82 (c_X11_in l C hC _ _ _ _) dX11_rainToTell_4 (by decide) (Nat.le_of_ble_eq_true rfl) ?_
  first | refine j_ifneP hE 13 dX11_rainToTell_7 (by decide) (fun c7 => ?_) (fun c7 => ?_) | refine j_ifne hE 13 dX11_rainToTell_7 (by decide) (fun c7 => ?_) (fun c7 => ?_)
  · skip
    refine j_aload0 hE dX11_rainToTell_13 ?_
    refine j_geti hE fX11_72 dX11_rainToTell_14 (by first | assumption | rfl) ?_
    refine j_ifne hE 24 dX11_rainToTell_17 (by decide) (fun c17 => ?_) (fun c17 => ?_)
    · skip
      have hh0 : 0 < hh := Nat.pos_of_ne_zero (fun z => c17 (by rw [h.1, z]; rfl))
      refine j_iconst hE (nI 0) dX11_rainToTell_24 kiconst_0 ?_
      refine j_istore2 hE dX11_rainToTell_25 rfl ?_
      refine j_aload0 hE dX11_rainToTell_26 ?_
      refine j_iconst hE (nI 0) dX11_rainToTell_27 kiconst_0 ?_
      refine j_V1i hE mX11_310 (c_X11_leftBy l C hC _ hh ww nl nc h nf hnf hfl hh0 (nI 0)) dX11_rainToTell_28 (by first | assumption | rfl) (by decide) (Nat.le_of_ble_eq_true rfl) ?_
      refine j_istore3 hE dX11_rainToTell_31 rfl ?_
      refine j_iconst hE (nI 1) dX11_rainToTell_32 kiconst_1 ?_
      refine j_istore4 hE dX11_rainToTell_33 rfl ?_
      have L35 : ∀ (fu : Nat) (i : Nat) (x5 : Option Value), 9 - i < fu → (i ≤ 9) → J C E (mwrS S hh ww nl nc (i + 1)) 35 [some (.ref (C.2.1 114)), some (.int w), some (.int (mrtF S hh ww nl nc nf i).1), some (.int (mrtF S hh ww nl nc nf i).2), some (.int (nI (i + 1))), x5] [] := by
        intro fu
        induction fu with
        | zero => intro i x5 hm; omega
        | succ fu ih =>
          intro i x5 hm hi
          refine j_iload4 hE dX11_rainToTell_35 ?_
          refine j_bipush hE (nI 10) dX11_rainToTell_37 kbipush_10 ?_
          refine j_icmpge hE 82 dX11_rainToTell_39 (by decide) (fun c39 => ?_) (fun c39 => ?_)
          · skip
            have c39 := (nI_leI (by omega) (by omega)).mp c39
            have hii : i = 9 := by omega
            subst hii
            refine j_iload1 hE dX11_rainToTell_82 ?_
            refine j_ifne hE 90 dX11_rainToTell_83 (by decide) (fun c83 => ?_) (fun c83 => ?_)
            · skip
              refine j_iload3 hE dX11_rainToTell_90 ?_
              exact j_iret hE hR dX11_rainToTell_91 (by first
                  | (rw [if_neg (fun z => z c7), if_neg (by omega), if_pos c83]; first | done | rfl)
                  | (rw [if_neg (fun z => z c7), if_neg (by omega), if_neg c83]; first | done | rfl)) (by first
                  | (rw [if_neg (fun z => z c7), if_neg (by omega)]; first | done | rfl))
            · skip
              refine j_iload2 hE dX11_rainToTell_86 ?_
              refine j_goto hE 91 dX11_rainToTell_87 (by decide) ?_
              exact j_iret hE hR dX11_rainToTell_91 (by first
                  | (rw [if_neg (fun z => z c7), if_neg (by omega), if_pos c83]; first | done | rfl)
                  | (rw [if_neg (fun z => z c7), if_neg (by omega), if_neg c83]; first | done | rfl)) (by first
                  | (rw [if_neg (fun z => z c7), if_neg (by omega)]; first | done | rfl))
          · skip
            have c39 : i + 1 < 10 := Nat.lt_of_not_le (fun q => c39 (nI_le q (by omega)))
            refine j_aload0 hE dX11_rainToTell_42 ?_
            refine j_iload4 hE dX11_rainToTell_43 ?_
            refine j_V1i hE mX11_310 (c_X11_leftBy l C hC _ hh ww nl nc (MW.wr h (i + 1)) nf (by rw [mwr_o (by omega)]; exact hnf) hfl hh0 (nI (i + 1))) dX11_rainToTell_45 (by first | assumption | rfl) (by decide) (Nat.le_of_ble_eq_true rfl) ?_
            refine j_istore5 hE dX11_rainToTell_48 rfl ?_
            refine j_iload5 hE dX11_rainToTell_50 ?_
            refine j_iload3 hE dX11_rainToTell_52 ?_
            refine j_icmpge hE 61 dX11_rainToTell_53 (by decide) (fun c53 => ?_) (fun c53 => ?_)
            · skip
              refine j_iload2 hE dX11_rainToTell_61 ?_
              refine j_istore2 hE dX11_rainToTell_62 rfl ?_
              refine j_iload5 hE dX11_rainToTell_63 ?_
              refine j_iload3 hE dX11_rainToTell_65 ?_
              refine j_icmpge hE 74 dX11_rainToTell_66 (by decide) (fun c66 => ?_) (fun c66 => ?_)
              · skip
                refine j_iload3 hE dX11_rainToTell_74 ?_
                refine j_istore3 hE dX11_rainToTell_75 rfl ?_
                refine j_iinc4 hE (nI (i + 1 + 1)) dX11_rainToTell_76 (nI_inc _) rfl ?_
                refine j_goto hE 35 dX11_rainToTell_79 (by decide) ?_
                exact j_cast rfl (by rw [mrtF]; first | (rw [if_pos c53, if_pos c53]; done) | (rw [if_neg c53, if_neg c53]; done)) (ih (i + 1) _ (by omega) (by omega))
              · skip
                exact absurd c53 c66
            · skip
              refine j_iload4 hE dX11_rainToTell_56 ?_
              refine j_goto hE 62 dX11_rainToTell_58 (by decide) ?_
              refine j_istore2 hE dX11_rainToTell_62 rfl ?_
              refine j_iload5 hE dX11_rainToTell_63 ?_
              refine j_iload3 hE dX11_rainToTell_65 ?_
              refine j_icmpge hE 74 dX11_rainToTell_66 (by decide) (fun c66 => ?_) (fun c66 => ?_)
              · skip
                exact absurd c66 c53
              · skip
                refine j_iload5 hE dX11_rainToTell_69 ?_
                refine j_goto hE 75 dX11_rainToTell_71 (by decide) ?_
                refine j_istore3 hE dX11_rainToTell_75 rfl ?_
                refine j_iinc4 hE (nI (i + 1 + 1)) dX11_rainToTell_76 (nI_inc _) rfl ?_
                refine j_goto hE 35 dX11_rainToTell_79 (by decide) ?_
                exact j_cast rfl (by rw [mrtF]; first | (rw [if_pos c53, if_pos c53]; done) | (rw [if_neg c53, if_neg c53]; done)) (ih (i + 1) _ (by omega) (by omega))
      exact L35 10 0 none (by omega) (by omega)
    · skip
      have hh0 : hh = 0 := (nI_z (Nat.le_trans h.2.2.1 (by decide))).mp (by rw [← h.1]; exact c17)
      refine j_ldcw hE dX11_rainToTell_20 kX11_269 ?_
      exact j_iret hE hR dX11_rainToTell_23 (by first
          | (rw [if_neg (fun z => z c7), if_pos hh0]; first | done | rfl)) (by first
          | (rw [if_neg (fun z => z c7), if_pos hh0]; first | done | rfl))
  · skip
    refine j_ldc hE dX11_rainToTell_10 kX11_97 ?_
    exact j_iret hE hR dX11_rainToTell_12 (by first
        | (rw [if_pos c7]; first | done | rfl)) (by first
        | (rw [if_pos c7]; first | done | rfl))

