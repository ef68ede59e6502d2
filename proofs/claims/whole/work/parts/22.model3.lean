/-- the model's numbers are in their bounds -/
def MW (S : Sto) (hh ww nl nc : Nat) : Prop := S 114 0 = nI hh ∧ S 114 1 = nI ww ∧ hh ≤ 5 ∧ ww ≤ 5 ∧ (0 < hh → 0 < ww) ∧ S 114 2 = nI nl ∧ nl ≤ 4 ∧ S 114 4 = nI nc ∧ nc ≤ 6 ∧ (∀ c, c < nc → ∃ a, a < 25 ∧ S 116 c = nI a) ∧ (∀ c, c < nc → ∃ b, b < 25 ∧ S 117 c = nI b) ∧ ∀ c, c < nl → ∃ a, a < 25 ∧ S 119 (25 + c) = nI a
theorem MW.cl {S : Sto} {hh ww nl nc : Nat} (h : MW S hh ww nl nc) : mcl S = nI (hh * ww) := by unfold mcl; rw [h.1, h.2.1, pk_mul]
theorem MW.le {S : Sto} {hh ww nl nc : Nat} (h : MW S hh ww nl nc) : hh * ww ≤ 25 := (Nat.mul_le_mul h.2.2.1 h.2.2.2.1 : hh * ww ≤ 5 * 5)
theorem MW.w {S : Sto} {hh ww nl nc : Nat} (h : MW S hh ww nl nc) : hh * ww ≠ 0 → ¬ S 114 1 = 0 := fun q z => by
  have h0 : 0 < ww := Nat.pos_of_ne_zero (fun e => q (by rw [e, Nat.mul_zero]))
  rw [h.2.1] at z
  exact nI_ne0 h0 (by have := h.2.2.2.1; omega) z
/-- what keeps the model's numbers keeps MW -/
theorem MW.of {S T : Sto} {hh ww nl nc : Nat} (h : MW S hh ww nl nc) (e : ∀ k, k < 8 → T 114 k = S 114 k) (e1 : T 116 = S 116) (e2 : T 117 = S 117) (e3 : ∀ c, c < nl → T 119 (25 + c) = S 119 (25 + c)) : MW T hh ww nl nc := by
  obtain ⟨a1, a2, a3, a4, a5, a6, a7, a8, a9, a10, a11, a12⟩ := h
  refine ⟨by rw [e 0 (by decide)]; exact a1, by rw [e 1 (by decide)]; exact a2, a3, a4, a5, by rw [e 2 (by decide)]; exact a6, a7, by rw [e 4 (by decide)]; exact a8, a9, by rw [e1]; exact a10, by rw [e2]; exact a11, fun c hc => by rw [e3 c hc]; exact a12 c hc⟩
theorem passW {S : Sto} {hh ww nl nc : Nat} {r : Int32} {k : Nat} (h : MW S hh ww nl nc) (hk : 25 ≤ k) (hk2 : k ≠ 31) : passS S (hh * ww) ww nl nc r 119 k = S 119 k := by
  have hl := h.le
  unfold passS
  rw [up2_same, pk_un hk2, upA_same]
  unfold msW cpN
  rw [if_neg (by omega)]
  unfold passD
  rw [mst_o (by decide) (by decide), mcp_o (by decide) (by decide) (by decide)]
  unfold passA
  rw [upA_same]
  exact mlW_hi (m := nl) hk nl (Nat.le_refl _) h.2.2.2.2.2.2.2.2.2.2.2
theorem MW.pass {S : Sto} {hh ww nl nc : Nat} {r : Int32} (h : MW S hh ww nl nc) : MW (passS S (hh * ww) ww nl nc r) hh ww nl nc :=
  h.of (fun k _ => by rw [pass_o (by omega)]) (pass_o (by omega)) (pass_o (by omega)) (fun c hc => passW h (by omega) (by have := h.2.2.2.2.2.2.1; omega))
theorem lookW {S : Sto} {nn k : Nat} (hn : nn ≤ 25) (hk : 25 ≤ k) (hk2 : k ≠ 32) : mlookS S nn 119 k = S 119 k := by
  unfold mlookS
  rw [up2_same, pk_un hk2, upA_same]
  unfold mlkW cpN
  rw [if_neg (by omega)]
theorem MW.look {S : Sto} {hh ww nl nc : Nat} (h : MW S hh ww nl nc) : MW (mlookS S (hh * ww)) hh ww nl nc :=
  h.of (fun k _ => by rw [mlook_o (by decide)]) (mlook_o (by decide)) (mlook_o (by decide)) (fun c hc => lookW h.le (by omega) (by have := h.2.2.2.2.2.2.1; omega))
theorem MW.rem {S : Sto} {hh ww nl nc u : Nat} (h : MW S hh ww nl nc) : MW (remS S u) hh ww nl nc :=
  h.of (fun k hk => by rw [rem_114 (by omega)]) (rem_o (by decide) (by decide)) (rem_o (by decide) (by decide)) (fun c hc => by rw [rem_o (by decide) (by decide)])
theorem cM_pass (l : Launch) (C : JC) (hC : JInj C) (S : Sto) (hh ww nl nc : Nat) (h : MW S hh ww nl nc) (h0 : 0 < hh) (r : Int32) : Con l C yX11_pass cX11_pass 4 none 3 [.ref (C.2.1 114), .int r] S none (passS S (hh * ww) ww nl nc r) :=
  c_X11_pass l C hC S hh ww h.2.1 (h.2.2.2.2.1 h0) h.2.2.2.1 (hh * ww) rfl h.cl h.le nl h.2.2.2.2.2.1 h.2.2.2.2.2.2.1 h.2.2.2.2.2.2.2.2.2.2.2 nc h.2.2.2.2.2.2.2.1 h.2.2.2.2.2.2.2.2.1 h.2.2.2.2.2.2.2.2.2.1 h.2.2.2.2.2.2.2.2.2.2.1 r
def mpsS (S : Sto) (hh ww nl nc : Nat) (r : Int32) : Nat → Sto
  | 0 => S
  | n + 1 => passS (mpsS S hh ww nl nc r n) (hh * ww) ww nl nc r
theorem MW.ps {S : Sto} {hh ww nl nc : Nat} {r : Int32} (h : MW S hh ww nl nc) : ∀ n, MW (mpsS S hh ww nl nc r n) hh ww nl nc
  | 0 => h
  | n + 1 => (MW.ps h n).pass
theorem mps_o {S : Sto} {hh ww nl nc : Nat} {r : Int32} {i : Nat} (h : i < 119 ∨ (119 < i ∧ i < 125) ∨ 127 < i) : ∀ n, mpsS S hh ww nl nc r n i = S i
  | 0 => rfl
  | n + 1 => by rw [mpsS, pass_o h, mps_o h n]
theorem in_n {x : Int32} {a b : Nat} {A B : Int64} (hA : A.toInt = a) (hB : B.toInt = b) (h : inP x.toInt64 A B) : ∃ k, a ≤ k ∧ k ≤ b ∧ x = nI k := by
  obtain ⟨h1, h2⟩ := h
  rw [Int64.le_iff_toInt_le, Int32.toInt_toInt64, hA] at h1
  rw [Int64.le_iff_toInt_le, Int32.toInt_toInt64, hB] at h2
  obtain ⟨k, hk⟩ := Int.eq_ofNat_of_zero_le (by omega : 0 ≤ x.toInt)
  exact ⟨k, by omega, by omega, i32_of hk⟩
set_option maxHeartbeats 4000000 in
set_option maxRecDepth 100000 in
theorem c_X11_day (l : Launch) (C : JC) (hC : JInj C) (S : Sto) (hh ww nl nc : Nat) (h : MW S hh ww nl nc) (u : Nat) (hu : S 114 32 = nI u) (hul : u ≤ 16) (n r : Int32) : Con l C yX11_day cX11_day 4 (some .int) 6 [.ref (C.2.1 114), .int n, .int r] S (some (.int (if ¬ (inP n.toInt64 (lN 1) 60 ∧ inP r.toInt64 (lN 0) 9) then -1000000002 else if hh = 0 then -1000000003 else if ¬ S 119 31 ≤ nI 9000 then -1000000004 else bitsF (mshF (mpsS (remS S u) hh ww nl nc r n.toNatClampNeg 119) (hh * ww)) 25))) (if ¬ (inP n.toInt64 (lN 1) 60 ∧ inP r.toInt64 (lN 0) 9) then S else if hh = 0 then S else if ¬ S 119 31 ≤ nI 9000 then S else mpsS (remS S u) hh ww nl nc r n.toNatClampNeg) := by
  refine con_of RX11 1 [some (.ref (C.2.1 114)), some (.int n), some (.int r), none] (by decide) rfl hC (Nat.le_of_ble_eq_true rfl) rfl (Nat.le_of_ble_eq_true rfl) (fun E hE hR => ?_)
  refine j_iload1 hE dX11_day_0 ?_
  refine j_i2l hE dX11_day_1 ?_
  refine j_lconst hE (lN 1) dX11_day_2 rfl ?_
  refine j_ldc2 hE dX11_day_3 kX11_265 ?_
  refine j_S3i hE mX11_82 (c_X11_in l C hC _ _ _ _) dX11_day_6 (by decide) (Nat.le_of_ble_eq_true rfl) ?_
  first | refine j_ifeqP hE 24 dX11_day_9 (by decide) (fun c9 => ?_) (fun c9 => ?_) | refine j_ifeq hE 24 dX11_day_9 (by decide) (fun c9 => ?_) (fun c9 => ?_)
  · skip
    refine j_ldc hE dX11_day_24 kX11_97 ?_
    exact j_iret hE hR dX11_day_26 (by first
        | (rw [if_pos (fun z => c9 z.1)]; first | done | rfl)
        | (rw [if_pos (fun z => c21 z.2)]; first | done | rfl)) (by first
        | (rw [if_pos (fun z => c9 z.1)]; first | done | rfl)
        | (rw [if_pos (fun z => c21 z.2)]; first | done | rfl))
  · skip
    refine j_iload2 hE dX11_day_12 ?_
    refine j_i2l hE dX11_day_13 ?_
    refine j_lconst hE (lN 0) dX11_day_14 rfl ?_
    refine j_ldc2 hE dX11_day_15 kX11_267 ?_
    refine j_S3i hE mX11_82 (c_X11_in l C hC _ _ _ _) dX11_day_18 (by decide) (Nat.le_of_ble_eq_true rfl) ?_
    first | refine j_ifneP hE 27 dX11_day_21 (by decide) (fun c21 => ?_) (fun c21 => ?_) | refine j_ifne hE 27 dX11_day_21 (by decide) (fun c21 => ?_) (fun c21 => ?_)
    · skip
      refine j_aload0 hE dX11_day_27 ?_
      refine j_geti hE fX11_72 dX11_day_28 (by first | assumption | rfl) ?_
      refine j_ifne hE 38 dX11_day_31 (by decide) (fun c31 => ?_) (fun c31 => ?_)
      · skip
        have hh0 : 0 < hh := Nat.pos_of_ne_zero (fun z => c31 (by rw [h.1, z]; rfl))
        refine j_aload0 hE dX11_day_38 ?_
        refine j_getr hE fX11_22 dX11_day_39 (j := 119) (by first | assumption | rfl) (rfl) ?_
        refine j_bipush hE (nI 31) dX11_day_42 kbipush_31 ?_
        refine j_ialdN hE dX11_day_44 (by first | assumption | rfl) (by omega) (by decide) ?_
        refine j_sipush hE (nI 9000) dX11_day_45 ksipush_9000 ?_
        refine j_icmple hE 54 dX11_day_48 (by decide) (fun c48 => ?_) (fun c48 => ?_)
        · skip
          obtain ⟨k, hk1, hk2, rfl⟩ := in_n (a := 1) (b := 60) rfl rfl c9
          refine j_aload0 hE dX11_day_54 ?_
          refine j_V0v hE mX11_270 (c_X11_remember l C hC _ u hu hul) dX11_day_55 (by first | assumption | rfl) (by decide) (Nat.le_of_ble_eq_true rfl) ?_
          refine j_iconst hE (nI 0) dX11_day_58 kiconst_0 ?_
          refine j_istore3 hE dX11_day_59 rfl ?_
          have L60 : ∀ (fu : Nat) (i : Nat), k - i < fu → (i ≤ k) → J C E (mpsS (remS S u) hh ww nl nc r i) 60 [some (.ref (C.2.1 114)), some (.int (nI k)), some (.int r), some (.int (nI i))] [] := by
            intro fu
            induction fu with
            | zero => intro i hm; omega
            | succ fu ih =>
              intro i hm hi
              refine j_iload3 hE dX11_day_60 ?_
              refine j_iload1 hE dX11_day_61 ?_
              refine j_icmpge hE 76 dX11_day_62 (by decide) (fun c62 => ?_) (fun c62 => ?_)
              · skip
                have c62 := (nI_leI (by omega) (by omega)).mp c62
                have hii : k = i := by omega
                subst hii
                refine j_aload0 hE dX11_day_76 ?_
                refine j_V0i hE mX11_204 (c_X11_shows l C hC _ (hh * ww) (MW.cl (MW.ps h.rem k)) h.le) dX11_day_77 (by first | assumption | rfl) (by decide) (Nat.le_of_ble_eq_true rfl) ?_
                refine j_S1i hE mX11_207 (c_X11_bits l C hC _ _) dX11_day_80 (by decide) (Nat.le_of_ble_eq_true rfl) ?_
                exact j_iret hE hR dX11_day_83 (by first
                    | (rw [if_neg (fun z => z ⟨c9, c21⟩), if_neg (by omega), if_neg (fun z => z c48), nI_clamp (by omega)]; first | done | rfl)) (by first
                    | (rw [if_neg (fun z => z ⟨c9, c21⟩), if_neg (by omega), if_neg (fun z => z c48), nI_clamp (by omega)]; first | done | rfl))
              · skip
                have c62 : i < k := Nat.lt_of_not_le (fun q => c62 (nI_le q (by omega)))
                refine j_aload0 hE dX11_day_65 ?_
                refine j_iload2 hE dX11_day_66 ?_
                refine j_V1v hE mX11_273 (cM_pass l C hC _ hh ww nl nc (MW.ps h.rem i) hh0 r) dX11_day_67 (by first | assumption | rfl) (by decide) (Nat.le_of_ble_eq_true rfl) ?_
                refine j_iinc3 hE (nI (i + 1)) dX11_day_70 (nI_inc _) rfl ?_
                refine j_goto hE 60 dX11_day_73 (by decide) ?_
                exact ih (i + 1) (by omega) (by omega)
          exact L60 (k + 1) 0 (by omega) (by omega)
        · skip
          refine j_ldc hE dX11_day_51 kX11_101 ?_
          exact j_iret hE hR dX11_day_53 (by first
              | (rw [if_neg (fun z => z ⟨c9, c21⟩), if_neg (by omega), if_pos c48]; first | done | rfl)) (by first
              | (rw [if_neg (fun z => z ⟨c9, c21⟩), if_neg (by omega), if_pos c48]; first | done | rfl))
      · skip
        have hh0 : hh = 0 := (nI_z (Nat.le_trans h.2.2.1 (by decide))).mp (by rw [← h.1]; exact c31)
        refine j_ldcw hE dX11_day_34 kX11_269 ?_
        exact j_iret hE hR dX11_day_37 (by first
            | (rw [if_neg (fun z => z ⟨c9, c21⟩), if_pos hh0]; first | done | rfl)) (by first
            | (rw [if_neg (fun z => z ⟨c9, c21⟩), if_pos hh0]; first | done | rfl))
    · skip
      refine j_ldc hE dX11_day_24 kX11_97 ?_
      exact j_iret hE hR dX11_day_26 (by first
          | (rw [if_pos (fun z => c9 z.1)]; first | done | rfl)
          | (rw [if_pos (fun z => c21 z.2)]; first | done | rfl)) (by first
          | (rw [if_pos (fun z => c9 z.1)]; first | done | rfl)
          | (rw [if_pos (fun z => c21 z.2)]; first | done | rfl))

set_option maxHeartbeats 4000000 in
set_option maxRecDepth 100000 in
theorem c_X11_look (l : Launch) (C : JC) (hC : JInj C) (S : Sto) (hh ww nl nc : Nat) (h : MW S hh ww nl nc) (u : Nat) (hu : S 114 32 = nI u) (hul : u ≤ 16)  : Con l C yX11_look cX11_look 1 (some .int) 6 [.ref (C.2.1 114)] S (some (.int (if hh = 0 then -1000000003 else bitsF (mshF (mlookS (remS S u) (hh * ww) 119) (hh * ww)) 25))) (if hh = 0 then S else mlookS (remS S u) (hh * ww)) := by
  refine con_of RX11 0 [some (.ref (C.2.1 114))] (by decide) rfl hC (Nat.le_of_ble_eq_true rfl) rfl (Nat.le_of_ble_eq_true rfl) (fun E hE hR => ?_)
  refine j_aload0 hE dX11_look_0 ?_
  refine j_geti hE fX11_72 dX11_look_1 (by first | assumption | rfl) ?_
  refine j_ifne hE 11 dX11_look_4 (by decide) (fun c4 => ?_) (fun c4 => ?_)
  · skip
    have hh0 : 0 < hh := Nat.pos_of_ne_zero (fun z => c4 (by rw [h.1, z]; rfl))
    refine j_aload0 hE dX11_look_11 ?_
    refine j_V0v hE mX11_270 (c_X11_remember l C hC _ u hu hul) dX11_look_12 (by first | assumption | rfl) (by decide) (Nat.le_of_ble_eq_true rfl) ?_
    refine j_aload0 hE dX11_look_15 ?_
    refine j_V0v hE mX11_276 (c_X11_lookNow l C hC _ (hh * ww) h.rem.cl h.le h.rem.w) dX11_look_16 (by first | assumption | rfl) (by decide) (Nat.le_of_ble_eq_true rfl) ?_
    refine j_aload0 hE dX11_look_19 ?_
    refine j_V0i hE mX11_204 (c_X11_shows l C hC _ (hh * ww) (MW.cl (h.rem.look)) h.le) dX11_look_20 (by first | assumption | rfl) (by decide) (Nat.le_of_ble_eq_true rfl) ?_
    refine j_S1i hE mX11_207 (c_X11_bits l C hC _ _) dX11_look_23 (by decide) (Nat.le_of_ble_eq_true rfl) ?_
    exact j_iret hE hR dX11_look_26 (by first
        | (rw [if_neg (by omega)]; first | done | rfl)) (by first
        | (rw [if_neg (by omega)]; first | done | rfl))
  · skip
    have hh0 : hh = 0 := (nI_z (Nat.le_trans h.2.2.1 (by decide))).mp (by rw [← h.1]; exact c4)
    refine j_ldcw hE dX11_look_7 kX11_269 ?_
    exact j_iret hE hR dX11_look_10 (by first
        | (rw [if_pos hh0]; first | done | rfl)) (by first
        | (rw [if_pos hh0]; first | done | rfl))

def mbrS (S : Sto) (u : Nat) (x : Nat) : Sto := let F := up2 (remS S u) 119 x (nI 0); up2 F 119 33 (F 119 33 + nI 1)
set_option maxHeartbeats 4000000 in
set_option maxRecDepth 100000 in
theorem c_X11_brush (l : Launch) (C : JC) (hC : JInj C) (S : Sto) (hh ww nl nc : Nat) (h : MW S hh ww nl nc) (u : Nat) (hu : S 114 32 = nI u) (hul : u ≤ 16) (x : Int32) : Con l C yX11_brush cX11_brush 3 (some .int) 6 [.ref (C.2.1 114), .int x] S (some (.int (if ¬ isM (mcl S) x then -1000000001 else S 119 x.toNatClampNeg))) (if ¬ isM (mcl S) x then S else mbrS S u x.toNatClampNeg) := by
  refine con_of RX11 1 [some (.ref (C.2.1 114)), some (.int x), none] (by decide) rfl hC (Nat.le_of_ble_eq_true rfl) rfl (Nat.le_of_ble_eq_true rfl) (fun E hE hR => ?_)
  refine j_aload0 hE dX11_brush_0 ?_
  refine j_iload1 hE dX11_brush_1 ?_
  refine j_V1i hE mX11_241 (c_X11_isCell l C hC _ x) dX11_brush_2 (by first | assumption | rfl) (by decide) (Nat.le_of_ble_eq_true rfl) ?_
  first | refine j_ifneP hE 11 dX11_brush_5 (by decide) (fun c5 => ?_) (fun c5 => ?_) | refine j_ifne hE 11 dX11_brush_5 (by decide) (fun c5 => ?_) (fun c5 => ?_)
  · skip
    have hle := h.le
    obtain ⟨j, hj, rfl⟩ := isM_n (k := hh * ww) (by omega) (by rw [← h.cl]; exact c5)
    refine j_aload0 hE dX11_brush_11 ?_
    refine j_V0v hE mX11_270 (c_X11_remember l C hC _ u hu hul) dX11_brush_12 (by first | assumption | rfl) (by decide) (Nat.le_of_ble_eq_true rfl) ?_
    refine j_aload0 hE dX11_brush_15 ?_
    refine j_getr hE fX11_22 dX11_brush_16 (j := 119) (by first | assumption | rfl) (rfl) ?_
    refine j_iload1 hE dX11_brush_19 ?_
    refine j_ialdN hE dX11_brush_20 (by first | assumption | rfl) (by omega) (by decide) ?_
    refine j_istore2 hE dX11_brush_21 rfl ?_
    refine j_aload0 hE dX11_brush_22 ?_
    refine j_getr hE fX11_22 dX11_brush_23 (j := 119) (by first | assumption | rfl) (rfl) ?_
    refine j_iload1 hE dX11_brush_26 ?_
    refine j_iconst hE (nI 0) dX11_brush_27 kiconst_0 ?_
    refine j_iastN hE dX11_brush_28 (by first | assumption | rfl) (by omega) (by decide) ?_
    refine j_aload0 hE dX11_brush_29 ?_
    refine j_getr hE fX11_22 dX11_brush_30 (j := 119) (by first | assumption | rfl) (rfl) ?_
    refine j_bipush hE (nI 33) dX11_brush_33 kbipush_33 ?_
    refine j_dup2 hE dX11_brush_35 rfl rfl ?_
    refine j_ialdN hE dX11_brush_36 (by first | assumption | rfl) (by omega) (by decide) ?_
    refine j_iconst hE (nI 1) dX11_brush_37 kiconst_1 ?_
    refine j_iadd hE dX11_brush_38 ?_
    refine j_iastN hE dX11_brush_39 (by first | assumption | rfl) (by omega) (by decide) ?_
    refine j_iload2 hE dX11_brush_40 ?_
    exact j_iret hE hR dX11_brush_41 (by rw [if_neg (fun z => z c5), nI_clamp (by omega), rem_o (by decide) (by decide)]) (by rw [if_neg (fun z => z c5), nI_clamp (by omega)]; rfl)
  · skip
    refine j_ldc hE dX11_brush_8 kX11_244 ?_
    exact j_iret hE hR dX11_brush_10 (by first
        | (rw [if_pos c5]; first | done | rfl)) (by first
        | (rw [if_pos c5]; first | done | rfl))

set_option maxHeartbeats 4000000 in
set_option maxRecDepth 100000 in
theorem c_X11_lead (l : Launch) (C : JC) (hC : JInj C) (S : Sto) (hh ww nl nc : Nat) (h : MW S hh ww nl nc) (u : Nat) (hu : S 114 32 = nI u) (hul : u ≤ 16) (l0 x : Int32) : Con l C yX11_lead cX11_lead 4 (some .int) 6 [.ref (C.2.1 114), .int l0, .int x] S (some (.int (if ¬ (isM (S 114 2) l0 ∧ isM (mcl S) x) then -1000000001 else S 119 (25 + l0.toNatClampNeg)))) (if ¬ (isM (S 114 2) l0 ∧ isM (mcl S) x) then S else up2 (remS S u) 119 (25 + l0.toNatClampNeg) x) := by
  refine con_of RX11 1 [some (.ref (C.2.1 114)), some (.int l0), some (.int x), none] (by decide) rfl hC (Nat.le_of_ble_eq_true rfl) rfl (Nat.le_of_ble_eq_true rfl) (fun E hE hR => ?_)
  refine j_aload0 hE dX11_lead_0 ?_
  refine j_iload1 hE dX11_lead_1 ?_
  refine j_V1i hE mX11_245 (c_X11_isLeak l C hC _ l0) dX11_lead_2 (by first | assumption | rfl) (by decide) (Nat.le_of_ble_eq_true rfl) ?_
  first | refine j_ifeqP hE 16 dX11_lead_5 (by decide) (fun c5 => ?_) (fun c5 => ?_) | refine j_ifeq hE 16 dX11_lead_5 (by decide) (fun c5 => ?_) (fun c5 => ?_)
  · skip
    refine j_ldc hE dX11_lead_16 kX11_244 ?_
    exact j_iret hE hR dX11_lead_18 (by first
        | (rw [if_pos (fun z => c5 z.1)]; first | done | rfl)
        | (rw [if_pos (fun z => c13 z.2)]; first | done | rfl)) (by first
        | (rw [if_pos (fun z => c5 z.1)]; first | done | rfl)
        | (rw [if_pos (fun z => c13 z.2)]; first | done | rfl))
  · skip
    refine j_aload0 hE dX11_lead_8 ?_
    refine j_iload2 hE dX11_lead_9 ?_
    refine j_V1i hE mX11_241 (c_X11_isCell l C hC _ x) dX11_lead_10 (by first | assumption | rfl) (by decide) (Nat.le_of_ble_eq_true rfl) ?_
    first | refine j_ifneP hE 19 dX11_lead_13 (by decide) (fun c13 => ?_) (fun c13 => ?_) | refine j_ifne hE 19 dX11_lead_13 (by decide) (fun c13 => ?_) (fun c13 => ?_)
    · skip
      have hle := h.2.2.2.2.2.2.1
      obtain ⟨j, hj, rfl⟩ := isM_n (k := nl) (by omega) (by rw [← h.2.2.2.2.2.1]; exact c5)
      refine j_aload0 hE dX11_lead_19 ?_
      refine j_V0v hE mX11_270 (c_X11_remember l C hC _ u hu hul) dX11_lead_20 (by first | assumption | rfl) (by decide) (Nat.le_of_ble_eq_true rfl) ?_
      refine j_aload0 hE dX11_lead_23 ?_
      refine j_getr hE fX11_22 dX11_lead_24 (j := 119) (by first | assumption | rfl) (rfl) ?_
      refine j_bipush hE (nI 25) dX11_lead_27 kbipush_25 ?_
      refine j_iload1 hE dX11_lead_29 ?_
      refine j_iadd hE dX11_lead_30 ?_
      refine j_top (nI_add 25 j) ?_
      refine j_ialdN hE dX11_lead_31 (by first | assumption | rfl) (by omega) (by decide) ?_
      refine j_istore3 hE dX11_lead_32 rfl ?_
      refine j_aload0 hE dX11_lead_33 ?_
      refine j_getr hE fX11_22 dX11_lead_34 (j := 119) (by first | assumption | rfl) (rfl) ?_
      refine j_bipush hE (nI 25) dX11_lead_37 kbipush_25 ?_
      refine j_iload1 hE dX11_lead_39 ?_
      refine j_iadd hE dX11_lead_40 ?_
      refine j_iload2 hE dX11_lead_41 ?_
      refine j_top2 (nI_add 25 j) ?_
      refine j_iastN hE dX11_lead_42 (by first | assumption | rfl) (by omega) (by decide) ?_
      refine j_iload3 hE dX11_lead_43 ?_
      exact j_iret hE hR dX11_lead_44 (by rw [if_neg (fun z => z ⟨c5, c13⟩), nI_clamp (by omega), rem_o (by decide) (by decide)]) (by rw [if_neg (fun z => z ⟨c5, c13⟩), nI_clamp (by omega)])
    · skip
      refine j_ldc hE dX11_lead_16 kX11_244 ?_
      exact j_iret hE hR dX11_lead_18 (by first
          | (rw [if_pos (fun z => c5 z.1)]; first | done | rfl)
          | (rw [if_pos (fun z => c13 z.2)]; first | done | rfl)) (by first
          | (rw [if_pos (fun z => c5 z.1)]; first | done | rfl)
          | (rw [if_pos (fun z => c13 z.2)]; first | done | rfl))

set_option maxHeartbeats 4000000 in
set_option maxRecDepth 100000 in
theorem c_X11_wind (l : Launch) (C : JC) (hC : JInj C) (S : Sto) (hh ww nl nc : Nat) (h : MW S hh ww nl nc) (u : Nat) (hu : S 114 32 = nI u) (hul : u ≤ 16) (n : Int32) : Con l C yX11_wind cX11_wind 3 (some .int) 6 [.ref (C.2.1 114), .int n] S (some (.int (if ¬ inP n.toInt64 (lN 0) 2 then -1000000002 else if hh = 0 then -1000000003 else S 119 29))) (if ¬ inP n.toInt64 (lN 0) 2 then S else if hh = 0 then S else up2 (remS S u) 119 29 n) := by
  refine con_of RX11 1 [some (.ref (C.2.1 114)), some (.int n), none] (by decide) rfl hC (Nat.le_of_ble_eq_true rfl) rfl (Nat.le_of_ble_eq_true rfl) (fun E hE hR => ?_)
  refine j_iload1 hE dX11_wind_0 ?_
  refine j_i2l hE dX11_wind_1 ?_
  refine j_lconst hE (lN 0) dX11_wind_2 rfl ?_
  refine j_ldc2 hE dX11_wind_3 kX11_279 ?_
  refine j_S3i hE mX11_82 (c_X11_in l C hC _ _ _ _) dX11_wind_6 (by decide) (Nat.le_of_ble_eq_true rfl) ?_
  first | refine j_ifneP hE 15 dX11_wind_9 (by decide) (fun c9 => ?_) (fun c9 => ?_) | refine j_ifne hE 15 dX11_wind_9 (by decide) (fun c9 => ?_) (fun c9 => ?_)
  · skip
    refine j_aload0 hE dX11_wind_15 ?_
    refine j_geti hE fX11_72 dX11_wind_16 (by first | assumption | rfl) ?_
    refine j_ifne hE 26 dX11_wind_19 (by decide) (fun c19 => ?_) (fun c19 => ?_)
    · skip
      have hh0 : 0 < hh := Nat.pos_of_ne_zero (fun z => c19 (by rw [h.1, z]; rfl))
      refine j_aload0 hE dX11_wind_26 ?_
      refine j_V0v hE mX11_270 (c_X11_remember l C hC _ u hu hul) dX11_wind_27 (by first | assumption | rfl) (by decide) (Nat.le_of_ble_eq_true rfl) ?_
      refine j_aload0 hE dX11_wind_30 ?_
      refine j_getr hE fX11_22 dX11_wind_31 (j := 119) (by first | assumption | rfl) (rfl) ?_
      refine j_bipush hE (nI 29) dX11_wind_34 kbipush_29 ?_
      refine j_ialdN hE dX11_wind_36 (by first | assumption | rfl) (by omega) (by decide) ?_
      refine j_istore2 hE dX11_wind_37 rfl ?_
      refine j_aload0 hE dX11_wind_38 ?_
      refine j_getr hE fX11_22 dX11_wind_39 (j := 119) (by first | assumption | rfl) (rfl) ?_
      refine j_bipush hE (nI 29) dX11_wind_42 kbipush_29 ?_
      refine j_iload1 hE dX11_wind_44 ?_
      refine j_iastN hE dX11_wind_45 (by first | assumption | rfl) (by omega) (by decide) ?_
      refine j_iload2 hE dX11_wind_46 ?_
      exact j_iret hE hR dX11_wind_47 (by rw [if_neg (fun z => z c9), if_neg (by omega), rem_o (by decide) (by decide)]) (by rw [if_neg (fun z => z c9), if_neg (by omega)])
    · skip
      have hh0 : hh = 0 := (nI_z (Nat.le_trans h.2.2.1 (by decide))).mp (by rw [← h.1]; exact c19)
      refine j_ldcw hE dX11_wind_22 kX11_269 ?_
      exact j_iret hE hR dX11_wind_25 (by first
          | (rw [if_neg (fun z => z c9), if_pos hh0]; first | done | rfl)) (by first
          | (rw [if_neg (fun z => z c9), if_pos hh0]; first | done | rfl))
  · skip
    refine j_ldc hE dX11_wind_12 kX11_97 ?_
    exact j_iret hE hR dX11_wind_14 (by first
        | (rw [if_pos c9]; first | done | rfl)) (by first
        | (rw [if_pos c9]; first | done | rfl))

set_option maxHeartbeats 4000000 in
set_option maxRecDepth 100000 in
theorem c_X11_fill (l : Launch) (C : JC) (hC : JInj C) (S : Sto) (hh ww nl nc : Nat) (h : MW S hh ww nl nc) (u : Nat) (hu : S 114 32 = nI u) (hul : u ≤ 16) (x b : Int32) : Con l C yX11_fill cX11_fill 4 (some .int) 6 [.ref (C.2.1 114), .int x, .int b] S (some (.int (if ¬ isM (S 114 4) x then -1000000001 else (S 119 30 >>> (x &&& 31)) &&& nI 1))) (if ¬ isM (S 114 4) x then S else up2 (remS S u) 119 30 (fillV (S 119 30) x b)) := by
  refine con_of RX11 1 [some (.ref (C.2.1 114)), some (.int x), some (.int b), none] (by decide) rfl hC (Nat.le_of_ble_eq_true rfl) rfl (Nat.le_of_ble_eq_true rfl) (fun E hE hR => ?_)
  refine j_aload0 hE dX11_fill_0 ?_
  refine j_iload1 hE dX11_fill_1 ?_
  refine j_V1i hE mX11_248 (c_X11_isCrack l C hC _ x) dX11_fill_2 (by first | assumption | rfl) (by decide) (Nat.le_of_ble_eq_true rfl) ?_
  first | refine j_ifneP hE 11 dX11_fill_5 (by decide) (fun c5 => ?_) (fun c5 => ?_) | refine j_ifne hE 11 dX11_fill_5 (by decide) (fun c5 => ?_) (fun c5 => ?_)
  · skip
    refine j_aload0 hE dX11_fill_11 ?_
    refine j_V0v hE mX11_270 (c_X11_remember l C hC _ u hu hul) dX11_fill_12 (by first | assumption | rfl) (by decide) (Nat.le_of_ble_eq_true rfl) ?_
    refine j_aload0 hE dX11_fill_15 ?_
    refine j_getr hE fX11_22 dX11_fill_16 (j := 119) (by first | assumption | rfl) (rfl) ?_
    refine j_bipush hE (nI 30) dX11_fill_19 kbipush_30 ?_
    refine j_ialdN hE dX11_fill_21 (by first | assumption | rfl) (by omega) (by decide) ?_
    refine j_iload1 hE dX11_fill_22 ?_
    refine j_ishr hE dX11_fill_23 ?_
    refine j_iconst hE (nI 1) dX11_fill_24 kiconst_1 ?_
    refine j_iand hE dX11_fill_25 ?_
    refine j_istore3 hE dX11_fill_26 rfl ?_
    refine j_aload0 hE dX11_fill_27 ?_
    refine j_getr hE fX11_22 dX11_fill_28 (j := 119) (by first | assumption | rfl) (rfl) ?_
    refine j_bipush hE (nI 30) dX11_fill_31 kbipush_30 ?_
    refine j_iload2 hE dX11_fill_33 ?_
    refine j_ifeq hE 51 dX11_fill_34 (by decide) (fun c34 => ?_) (fun c34 => ?_)
    · skip
      refine j_aload0 hE dX11_fill_51 ?_
      refine j_getr hE fX11_22 dX11_fill_52 (j := 119) (by first | assumption | rfl) (rfl) ?_
      refine j_bipush hE (nI 30) dX11_fill_55 kbipush_30 ?_
      refine j_ialdN hE dX11_fill_57 (by first | assumption | rfl) (by omega) (by decide) ?_
      refine j_iconst hE (nI 1) dX11_fill_58 kiconst_1 ?_
      refine j_iload1 hE dX11_fill_59 ?_
      refine j_ishl hE dX11_fill_60 ?_
      refine j_iconst hE (-1) dX11_fill_61 kiconst_m1 ?_
      refine j_ixor hE dX11_fill_62 ?_
      refine j_iand hE dX11_fill_63 ?_
      refine j_iastN hE dX11_fill_64 (by first | assumption | rfl) (by omega) (by decide) ?_
      refine j_iload3 hE dX11_fill_65 ?_
      exact j_iret hE hR dX11_fill_66 (by rw [if_neg (fun z => z c5), rem_o (by decide) (by decide)]) (by rw [if_neg (fun z => z c5), fillV]; first | (rw [if_pos c34, rem_o (i := 119) (by decide) (by decide)]; done) | (rw [if_neg c34, rem_o (i := 119) (by decide) (by decide)]; done))
    · skip
      refine j_aload0 hE dX11_fill_37 ?_
      refine j_getr hE fX11_22 dX11_fill_38 (j := 119) (by first | assumption | rfl) (rfl) ?_
      refine j_bipush hE (nI 30) dX11_fill_41 kbipush_30 ?_
      refine j_ialdN hE dX11_fill_43 (by first | assumption | rfl) (by omega) (by decide) ?_
      refine j_iconst hE (nI 1) dX11_fill_44 kiconst_1 ?_
      refine j_iload1 hE dX11_fill_45 ?_
      refine j_ishl hE dX11_fill_46 ?_
      refine j_ior hE dX11_fill_47 ?_
      refine j_goto hE 64 dX11_fill_48 (by decide) ?_
      refine j_iastN hE dX11_fill_64 (by first | assumption | rfl) (by omega) (by decide) ?_
      refine j_iload3 hE dX11_fill_65 ?_
      exact j_iret hE hR dX11_fill_66 (by rw [if_neg (fun z => z c5), rem_o (by decide) (by decide)]) (by rw [if_neg (fun z => z c5), fillV]; first | (rw [if_pos c34, rem_o (i := 119) (by decide) (by decide)]; done) | (rw [if_neg c34, rem_o (i := 119) (by decide) (by decide)]; done))
  · skip
    refine j_ldc hE dX11_fill_8 kX11_244 ?_
    exact j_iret hE hR dX11_fill_10 (by first
        | (rw [if_pos c5]; first | done | rfl)) (by first
        | (rw [if_pos c5]; first | done | rfl))

