def mlcg (s : Int32) : Int32 := ((s.toInt64 * 1103515245 + 12345) - (s.toInt64 * 1103515245 + 12345) / 2147483648 * 2147483648).toInt32
def mdr (s n : Int32) : Int32 := s / 65536 - s / 65536 / n * n
theorem mlcg_n {a : Nat} (ha : a < 2 ^ 31) : mlcg (nI a) = nI ((a * 1103515245 + 12345) % 2147483648) := by
  unfold mlcg
  rw [nI_l ha, show (1103515245 : Int64) = lN 1103515245 from rfl, show (12345 : Int64) = lN 12345 from rfl, show (2147483648 : Int64) = lN 2147483648 from rfl, lN_mul, lN_add, pk_lRem (by omega) (by decide) (by decide), lN_i]
theorem mdr_n {a m : Nat} (ha : a < 2 ^ 31) (hm : 0 < m) (hm2 : m < 2 ^ 31) : mdr (nI a) (nI m) = nI (a / 65536 % m) := by
  unfold mdr
  rw [show (65536 : Int32) = nI 65536 from rfl, pk_div ha (by decide) (by decide), pk_rem (by omega) hm hm2]
def sdP (S : Sto) : Prop := ∃ a, a < 2 ^ 31 ∧ S 114 11 = nI a
theorem sd_l {s : Int32} (h : ∃ a, a < 2 ^ 31 ∧ s = nI a) : ∃ a, a < 2 ^ 31 ∧ mlcg s = nI a := by
  obtain ⟨a, ha, rfl⟩ := h
  exact ⟨_, Nat.mod_lt _ (by decide), mlcg_n ha⟩
theorem sd_d {s : Int32} {m : Nat} (h : ∃ a, a < 2 ^ 31 ∧ s = nI a) (hm : 0 < m) (hm2 : m < 2 ^ 31) : ∃ j, j < m ∧ mdr s (nI m) = nI j := by
  obtain ⟨a, ha, rfl⟩ := h
  exact ⟨_, Nat.mod_lt _ hm, mdr_n ha hm hm2⟩
set_option maxHeartbeats 4000000 in
set_option maxRecDepth 100000 in
theorem c_X11_draw (l : Launch) (C : JC) (hC : JInj C) (S : Sto) (n : Int32) (hn : ¬ n = 0) : Con l C yX11_draw cX11_draw 2 (some .int) 1 [.ref (C.2.1 114), .int n] S (some (.int (mdr (mlcg (S 114 11)) n))) (up2 S 114 11 (mlcg (S 114 11))) := by
  refine con_of RX11 0 [some (.ref (C.2.1 114)), some (.int n)] (by decide) rfl hC (Nat.le_of_ble_eq_true rfl) rfl (Nat.le_of_ble_eq_true rfl) (fun E hE hR => ?_)
  refine j_aload0 hE dX11_draw_0 ?_
  refine j_aload0 hE dX11_draw_1 ?_
  refine j_geti hE fX11_281 dX11_draw_2 (by first | assumption | rfl) ?_
  refine j_i2l hE dX11_draw_5 ?_
  refine j_ldc2 hE dX11_draw_6 kX11_284 ?_
  refine j_lmul hE dX11_draw_9 ?_
  refine j_ldc2 hE dX11_draw_10 kX11_286 ?_
  refine j_ladd hE dX11_draw_13 ?_
  refine j_ldc2 hE dX11_draw_14 kX11_288 ?_
  refine j_lrem hE dX11_draw_17 (by decide) ?_
  refine j_l2i hE dX11_draw_18 ?_
  refine j_puti hE pX11_281 dX11_draw_19 (by first | assumption | rfl) rfl rfl ?_
  refine j_aload0 hE dX11_draw_22 ?_
  refine j_geti hE fX11_281 dX11_draw_23 (by first | assumption | rfl) ?_
  refine j_ldcw hE dX11_draw_26 kX11_290 ?_
  refine j_idiv hE dX11_draw_29 (by decide) ?_
  refine j_iload1 hE dX11_draw_30 ?_
  refine j_irem hE dX11_draw_31 (hn) ?_
  exact j_iret hE hR dX11_draw_32 (by rw [up2_same, pk_us]; rfl) (rfl)

def mddS (S : Sto) (hh ww nl nc : Nat) : Sto :=
  let A := up2 S 114 11 (mlcg (S 114 11))
  let B := passS A (hh * ww) ww nl nc (mdr (mlcg (S 114 11)) (nI 10))
  let D := up2 B 114 11 (mlcg (B 114 11))
  let t := mdr (mlcg (B 114 11)) (nI 6)
  if t = 0 then mlookS D (hh * ww)
  else if t = nI 1 then up2 (up2 D 114 11 (mlcg (D 114 11))) 119 29 (mdr (mlcg (D 114 11)) (nI 3))
  else if t = nI 2 ∧ ¬ D 114 2 ≤ 0 then (let F := up2 D 114 11 (mlcg (D 114 11)); let G := up2 F 114 11 (mlcg (F 114 11)); up2 G 119 (25 + (mdr (mlcg (D 114 11)) (D 114 2)).toNatClampNeg) (mdr (mlcg (F 114 11)) (mcl F)))
  else D
theorem MW.up {S : Sto} {hh ww nl nc : Nat} {v : Int32} (h : MW S hh ww nl nc) : MW (up2 S 114 11 v) hh ww nl nc :=
  h.of (fun k hk => by rw [up2_same, pk_un (by omega)]) (up2_ne _ _ _ (by decide)) (up2_ne _ _ _ (by decide)) (fun c hc => by rw [up2_ne _ _ _ (by decide)])
theorem MW.up29 {S : Sto} {hh ww nl nc : Nat} {v : Int32} (h : MW S hh ww nl nc) : MW (up2 S 119 29 v) hh ww nl nc :=
  h.of (fun k hk => by rw [up2_ne _ _ _ (by decide)]) (up2_ne _ _ _ (by decide)) (up2_ne _ _ _ (by decide)) (fun c hc => by rw [up2_same, pk_un (by have := h.2.2.2.2.2.2.1; omega)])
theorem MW.upL {S : Sto} {hh ww nl nc j x : Nat} (h : MW S hh ww nl nc) (hx : x < 25) : MW (up2 S 119 (25 + j) (nI x)) hh ww nl nc := by
  obtain ⟨a1, a2, a3, a4, a5, a6, a7, a8, a9, a10, a11, a12⟩ := h
  refine ⟨a1, a2, a3, a4, a5, a6, a7, a8, a9, a10, a11, fun c hc => ?_⟩
  rw [up2_same]
  by_cases q : c = j
  · subst q
    exact ⟨x, hx, pk_us⟩
  · rw [pk_un (by omega)]
    exact a12 c hc
theorem sd_up {S : Sto} (h : sdP S) : sdP (up2 S 114 11 (mlcg (S 114 11))) := by
  obtain ⟨a, ha, e⟩ := sd_l h
  exact ⟨a, ha, by rw [up2_same, pk_us, e]⟩
theorem sd_pass {S : Sto} {nn ww nl nc : Nat} {r : Int32} (h : sdP S) : sdP (passS S nn ww nl nc r) := by
  unfold sdP
  rw [pass_o (by omega)]
  exact h
theorem up114 {S : Sto} {v : Int32} {k : Nat} (h : k ≠ 11) : up2 S 114 11 v 114 k = S 114 k := by rw [up2_same, pk_un h]
theorem mcl_up {S : Sto} {v : Int32} : mcl (up2 S 114 11 v) = mcl S := by unfold mcl; rw [up114 (by decide), up114 (by decide)]
set_option maxHeartbeats 4000000 in
set_option maxRecDepth 100000 in
theorem c_X11_dayByDraws (l : Launch) (C : JC) (hC : JInj C) (S : Sto) (hh ww nl nc : Nat) (h : MW S hh ww nl nc) (h0 : 0 < hh) (hs : sdP S) : Con l C yX11_dayByDraws cX11_dayByDraws 3 none 6 [.ref (C.2.1 114)] S none (mddS S hh ww nl nc) := by
  have hMB : MW (passS (up2 S 114 11 (mlcg (S 114 11))) (hh * ww) ww nl nc (mdr (mlcg (S 114 11)) (nI 10))) hh ww nl nc := h.up.pass
  have hMD : MW (up2 (passS (up2 S 114 11 (mlcg (S 114 11))) (hh * ww) ww nl nc (mdr (mlcg (S 114 11)) (nI 10))) 114 11 (mlcg ((passS (up2 S 114 11 (mlcg (S 114 11))) (hh * ww) ww nl nc (mdr (mlcg (S 114 11)) (nI 10))) 114 11))) hh ww nl nc := hMB.up
  have hsB : sdP (passS (up2 S 114 11 (mlcg (S 114 11))) (hh * ww) ww nl nc (mdr (mlcg (S 114 11)) (nI 10))) := sd_pass (sd_up hs)
  have hsD : sdP (up2 (passS (up2 S 114 11 (mlcg (S 114 11))) (hh * ww) ww nl nc (mdr (mlcg (S 114 11)) (nI 10))) 114 11 (mlcg ((passS (up2 S 114 11 (mlcg (S 114 11))) (hh * ww) ww nl nc (mdr (mlcg (S 114 11)) (nI 10))) 114 11))) := sd_up hsB
  refine con_of RX11 2 [some (.ref (C.2.1 114)), none, none] (by decide) rfl hC (Nat.le_of_ble_eq_true rfl) rfl (Nat.le_of_ble_eq_true rfl) (fun E hE hR => ?_)
  refine j_aload0 hE dX11_dayByDraws_0 ?_
  refine j_aload0 hE dX11_dayByDraws_1 ?_
  refine j_bipush hE (nI 10) dX11_dayByDraws_2 kbipush_10 ?_
  refine j_V1i hE mX11_291 (c_X11_draw l C hC _ _ (by decide)) dX11_dayByDraws_4 (by first | assumption | rfl) (by decide) (Nat.le_of_ble_eq_true rfl) ?_
  refine j_V1v hE mX11_273 (cM_pass l C hC _ hh ww nl nc h.up h0 _) dX11_dayByDraws_7 (by first | assumption | rfl) (by decide) (Nat.le_of_ble_eq_true rfl) ?_
  refine j_aload0 hE dX11_dayByDraws_10 ?_
  refine j_bipush hE (nI 6) dX11_dayByDraws_11 kbipush_6 ?_
  refine j_V1i hE mX11_291 (c_X11_draw l C hC _ _ (by decide)) dX11_dayByDraws_13 (by first | assumption | rfl) (by decide) (Nat.le_of_ble_eq_true rfl) ?_
  refine j_istore1 hE dX11_dayByDraws_16 rfl ?_
  refine j_iload1 hE dX11_dayByDraws_17 ?_
  refine j_ifne hE 28 dX11_dayByDraws_18 (by decide) (fun c18 => ?_) (fun c18 => ?_)
  · skip
    refine j_iload1 hE dX11_dayByDraws_28 ?_
    refine j_iconst hE (nI 1) dX11_dayByDraws_29 kiconst_1 ?_
    refine j_icmpne hE 48 dX11_dayByDraws_30 (by decide) (fun c30 => ?_) (fun c30 => ?_)
    · skip
      refine j_iload1 hE dX11_dayByDraws_48 ?_
      refine j_iconst hE (nI 2) dX11_dayByDraws_49 kiconst_2 ?_
      refine j_icmpne hE 86 dX11_dayByDraws_50 (by decide) (fun c50 => ?_) (fun c50 => ?_)
      · skip
        exact j_vret hE hR dX11_dayByDraws_86 (by first
            | (rw [mddS, if_pos c18]; done)
            | (rw [mddS, if_neg c18, if_pos c30]; done)
            | (rw [mddS, if_neg c18, if_neg c30, if_neg (fun z => c50 z.1)]; done)
            | (rw [mddS, if_neg c18, if_neg c30, if_neg (fun z => z.2 c57)]; done)
            | (rw [mddS, if_neg c18, if_neg c30, if_pos ⟨c50, c57⟩, hMD.2.2.2.2.2.1, ej, nI_clamp (by omega)]; done))
      · skip
        refine j_aload0 hE dX11_dayByDraws_53 ?_
        refine j_geti hE fX11_86 dX11_dayByDraws_54 (by first | assumption | rfl) ?_
        refine j_ifle hE 86 dX11_dayByDraws_57 (by decide) (fun c57 => ?_) (fun c57 => ?_)
        · skip
          exact j_vret hE hR dX11_dayByDraws_86 (by first
              | (rw [mddS, if_pos c18]; done)
              | (rw [mddS, if_neg c18, if_pos c30]; done)
              | (rw [mddS, if_neg c18, if_neg c30, if_neg (fun z => c50 z.1)]; done)
              | (rw [mddS, if_neg c18, if_neg c30, if_neg (fun z => z.2 c57)]; done)
              | (rw [mddS, if_neg c18, if_neg c30, if_pos ⟨c50, c57⟩, hMD.2.2.2.2.2.1, ej, nI_clamp (by omega)]; done))
        · skip
          have hnl0 : 0 < nl := Nat.pos_of_ne_zero (fun z => c57 (by rw [hMD.2.2.2.2.2.1, z]; decide))
          obtain ⟨j, hj, ej⟩ := sd_d (m := nl) (sd_l hsD) hnl0 (by have := h.2.2.2.2.2.2.1; omega)
          have hl4 := h.2.2.2.2.2.2.1
          refine j_aload0 hE dX11_dayByDraws_60 ?_
          refine j_aload0 hE dX11_dayByDraws_61 ?_
          refine j_geti hE fX11_86 dX11_dayByDraws_62 (by first | assumption | rfl) ?_
          refine j_V1i hE mX11_291 (c_X11_draw l C hC _ _ (fun q => c57 (by rw [q]; decide))) dX11_dayByDraws_65 (by first | assumption | rfl) (by decide) (Nat.le_of_ble_eq_true rfl) ?_
          refine j_istore2 hE dX11_dayByDraws_68 rfl ?_
          refine j_aload0 hE dX11_dayByDraws_69 ?_
          refine j_getr hE fX11_22 dX11_dayByDraws_70 (j := 119) (by first | assumption | rfl) (rfl) ?_
          refine j_bipush hE (nI 25) dX11_dayByDraws_73 kbipush_25 ?_
          refine j_iload2 hE dX11_dayByDraws_75 ?_
          refine j_iadd hE dX11_dayByDraws_76 ?_
          refine j_aload0 hE dX11_dayByDraws_77 ?_
          refine j_aload0 hE dX11_dayByDraws_78 ?_
          refine j_V0i hE mX11_78 (c_X11_cells l C hC _) dX11_dayByDraws_79 (by first | assumption | rfl) (by decide) (Nat.le_of_ble_eq_true rfl) ?_
          refine j_V1i hE mX11_291 (c_X11_draw l C hC _ _ (by rw [mcl_up, hMD.cl]; exact nI_ne0 (Nat.mul_pos h0 (h.2.2.2.2.1 h0)) (by have := h.le; omega))) dX11_dayByDraws_82 (by first | assumption | rfl) (by decide) (Nat.le_of_ble_eq_true rfl) ?_
          refine j_top2 (y := nI (25 + j)) (by rw [hMD.2.2.2.2.2.1, ej, nI_add]) ?_
          refine j_iastN hE dX11_dayByDraws_85 (by first | assumption | rfl) (by omega) (by decide) ?_
          exact j_vret hE hR dX11_dayByDraws_86 (by first
              | (rw [mddS, if_pos c18]; done)
              | (rw [mddS, if_neg c18, if_pos c30]; done)
              | (rw [mddS, if_neg c18, if_neg c30, if_neg (fun z => c50 z.1)]; done)
              | (rw [mddS, if_neg c18, if_neg c30, if_neg (fun z => z.2 c57)]; done)
              | (rw [mddS, if_neg c18, if_neg c30, if_pos ⟨c50, c57⟩, hMD.2.2.2.2.2.1, ej, nI_clamp (by omega)]; done))
    · skip
      refine j_aload0 hE dX11_dayByDraws_33 ?_
      refine j_getr hE fX11_22 dX11_dayByDraws_34 (j := 119) (by first | assumption | rfl) (rfl) ?_
      refine j_bipush hE (nI 29) dX11_dayByDraws_37 kbipush_29 ?_
      refine j_aload0 hE dX11_dayByDraws_39 ?_
      refine j_iconst hE (nI 3) dX11_dayByDraws_40 kiconst_3 ?_
      refine j_V1i hE mX11_291 (c_X11_draw l C hC _ _ (by decide)) dX11_dayByDraws_41 (by first | assumption | rfl) (by decide) (Nat.le_of_ble_eq_true rfl) ?_
      refine j_iastN hE dX11_dayByDraws_44 (by first | assumption | rfl) (by omega) (by decide) ?_
      refine j_goto hE 86 dX11_dayByDraws_45 (by decide) ?_
      exact j_vret hE hR dX11_dayByDraws_86 (by first
          | (rw [mddS, if_pos c18]; done)
          | (rw [mddS, if_neg c18, if_pos c30]; done)
          | (rw [mddS, if_neg c18, if_neg c30, if_neg (fun z => c50 z.1)]; done)
          | (rw [mddS, if_neg c18, if_neg c30, if_neg (fun z => z.2 c57)]; done)
          | (rw [mddS, if_neg c18, if_neg c30, if_pos ⟨c50, c57⟩, hMD.2.2.2.2.2.1, ej, nI_clamp (by omega)]; done))
  · skip
    refine j_aload0 hE dX11_dayByDraws_21 ?_
    refine j_V0v hE mX11_276 (c_X11_lookNow l C hC _ (hh * ww) hMD.cl h.le hMD.w) dX11_dayByDraws_22 (by first | assumption | rfl) (by decide) (Nat.le_of_ble_eq_true rfl) ?_
    refine j_goto hE 86 dX11_dayByDraws_25 (by decide) ?_
    exact j_vret hE hR dX11_dayByDraws_86 (by first
        | (rw [mddS, if_pos c18]; done)
        | (rw [mddS, if_neg c18, if_pos c30]; done)
        | (rw [mddS, if_neg c18, if_neg c30, if_neg (fun z => c50 z.1)]; done)
        | (rw [mddS, if_neg c18, if_neg c30, if_neg (fun z => z.2 c57)]; done)
        | (rw [mddS, if_neg c18, if_neg c30, if_pos ⟨c50, c57⟩, hMD.2.2.2.2.2.1, ej, nI_clamp (by omega)]; done))

theorem MW.dd {S : Sto} {hh ww nl nc : Nat} (h : MW S hh ww nl nc) (h0 : 0 < hh) (hs : sdP S) : MW (mddS S hh ww nl nc) hh ww nl nc := by
  have hMB := (h.up (v := mlcg (S 114 11))).pass (r := mdr (mlcg (S 114 11)) (nI 10))
  have hsB := sd_pass (nn := hh * ww) (ww := ww) (nl := nl) (nc := nc) (r := mdr (mlcg (S 114 11)) (nI 10)) (sd_up hs)
  unfold mddS
  dsimp only
  split
  · exact hMB.up.look
  · split
    · exact hMB.up.up.up29
    · split
      · have hnn : 0 < hh * ww := Nat.mul_pos h0 (h.2.2.2.2.1 h0)
        obtain ⟨x, hx, ex⟩ := sd_d (m := hh * ww) (sd_l (sd_up (sd_up hsB))) hnn (by have := h.le; omega)
        rw [mcl_up, (hMB.up).cl, ex]
        exact hMB.up.up.up.upL (by have := h.le; omega)
      · exact hMB.up
theorem sd_dd {S : Sto} {hh ww nl nc : Nat} (hs : sdP S) : sdP (mddS S hh ww nl nc) := by
  have hsB := sd_pass (nn := hh * ww) (ww := ww) (nl := nl) (nc := nc) (r := mdr (mlcg (S 114 11)) (nI 10)) (sd_up hs)
  unfold mddS
  dsimp only
  split
  · unfold sdP
    rw [mlook_o (by decide)]
    exact sd_up hsB
  · split
    · unfold sdP
      rw [up2_ne _ _ _ (by decide)]
      exact sd_up (sd_up hsB)
    · split
      · unfold sdP
        rw [up2_ne _ _ _ (by decide)]
        exact sd_up (sd_up (sd_up hsB))
      · exact sd_up hsB
def mddN (S : Sto) (hh ww nl nc : Nat) : Nat → Sto
  | 0 => S
  | n + 1 => mddS (mddN S hh ww nl nc n) hh ww nl nc
theorem MW.ddn {S : Sto} {hh ww nl nc : Nat} (h : MW S hh ww nl nc) (h0 : 0 < hh) (hs : sdP S) : ∀ n, MW (mddN S hh ww nl nc n) hh ww nl nc ∧ sdP (mddN S hh ww nl nc n)
  | 0 => ⟨h, hs⟩
  | n + 1 => ⟨(MW.ddn h h0 hs n).1.dd h0 (MW.ddn h h0 hs n).2, sd_dd (MW.ddn h h0 hs n).2⟩
theorem sd_rem {S : Sto} {u : Nat} (h : sdP S) : sdP (remS S u) := by
  unfold sdP
  rw [rem_114 (by decide)]
  exact h
set_option maxHeartbeats 4000000 in
set_option maxRecDepth 100000 in
theorem c_X11_drift (l : Launch) (C : JC) (hC : JInj C) (S : Sto) (hh ww nl nc : Nat) (h : MW S hh ww nl nc) (u : Nat) (hu : S 114 32 = nI u) (hul : u ≤ 16) (hs : sdP S) (n : Int32) : Con l C yX11_drift cX11_drift 3 (some .int) 8 [.ref (C.2.1 114), .int n] S (some (.int (if ¬ inP n.toInt64 (lN 1) 60 then -1000000002 else if hh = 0 then -1000000003 else if ¬ S 119 31 ≤ nI 9000 then -1000000004 else bitsF (mshF (mddN (remS S u) hh ww nl nc n.toNatClampNeg 119) (hh * ww)) 25))) (if ¬ inP n.toInt64 (lN 1) 60 then S else if hh = 0 then S else if ¬ S 119 31 ≤ nI 9000 then S else mddN (remS S u) hh ww nl nc n.toNatClampNeg) := by
  refine con_of RX11 1 [some (.ref (C.2.1 114)), some (.int n), none] (by decide) rfl hC (Nat.le_of_ble_eq_true rfl) rfl (Nat.le_of_ble_eq_true rfl) (fun E hE hR => ?_)
  refine j_iload1 hE dX11_drift_0 ?_
  refine j_i2l hE dX11_drift_1 ?_
  refine j_lconst hE (lN 1) dX11_drift_2 rfl ?_
  refine j_ldc2 hE dX11_drift_3 kX11_265 ?_
  refine j_S3i hE mX11_82 (c_X11_in l C hC _ _ _ _) dX11_drift_6 (by decide) (Nat.le_of_ble_eq_true rfl) ?_
  first | refine j_ifneP hE 15 dX11_drift_9 (by decide) (fun c9 => ?_) (fun c9 => ?_) | refine j_ifne hE 15 dX11_drift_9 (by decide) (fun c9 => ?_) (fun c9 => ?_)
  · skip
    refine j_aload0 hE dX11_drift_15 ?_
    refine j_geti hE fX11_72 dX11_drift_16 (by first | assumption | rfl) ?_
    refine j_ifne hE 26 dX11_drift_19 (by decide) (fun c19 => ?_) (fun c19 => ?_)
    · skip
      have hh0 : 0 < hh := Nat.pos_of_ne_zero (fun z => c19 (by rw [h.1, z]; rfl))
      refine j_aload0 hE dX11_drift_26 ?_
      refine j_getr hE fX11_22 dX11_drift_27 (j := 119) (by first | assumption | rfl) (rfl) ?_
      refine j_bipush hE (nI 31) dX11_drift_30 kbipush_31 ?_
      refine j_ialdN hE dX11_drift_32 (by first | assumption | rfl) (by omega) (by decide) ?_
      refine j_sipush hE (nI 9000) dX11_drift_33 ksipush_9000 ?_
      refine j_icmple hE 42 dX11_drift_36 (by decide) (fun c36 => ?_) (fun c36 => ?_)
      · skip
        obtain ⟨k, hk1, hk2, rfl⟩ := in_n (a := 1) (b := 60) rfl rfl c9
        refine j_aload0 hE dX11_drift_42 ?_
        refine j_V0v hE mX11_270 (c_X11_remember l C hC _ u hu hul) dX11_drift_43 (by first | assumption | rfl) (by decide) (Nat.le_of_ble_eq_true rfl) ?_
        refine j_iconst hE (nI 0) dX11_drift_46 kiconst_0 ?_
        refine j_istore2 hE dX11_drift_47 rfl ?_
        have L48 : ∀ (fu : Nat) (i : Nat), k - i < fu → (i ≤ k) → J C E (mddN (remS S u) hh ww nl nc i) 48 [some (.ref (C.2.1 114)), some (.int (nI k)), some (.int (nI i))] [] := by
          intro fu
          induction fu with
          | zero => intro i hm; omega
          | succ fu ih =>
            intro i hm hi
            refine j_iload2 hE dX11_drift_48 ?_
            refine j_iload1 hE dX11_drift_49 ?_
            refine j_icmpge hE 63 dX11_drift_50 (by decide) (fun c50 => ?_) (fun c50 => ?_)
            · skip
              have c50 := (nI_leI (by omega) (by omega)).mp c50
              have hii : k = i := by omega
              subst hii
              refine j_aload0 hE dX11_drift_63 ?_
              refine j_V0i hE mX11_204 (c_X11_shows l C hC _ (hh * ww) (MW.cl ((MW.ddn h.rem hh0 (sd_rem hs) k).1)) h.le) dX11_drift_64 (by first | assumption | rfl) (by decide) (Nat.le_of_ble_eq_true rfl) ?_
              refine j_S1i hE mX11_207 (c_X11_bits l C hC _ _) dX11_drift_67 (by decide) (Nat.le_of_ble_eq_true rfl) ?_
              exact j_iret hE hR dX11_drift_70 (by first
                  | (rw [if_neg (fun z => z c9), if_neg (by omega), if_neg (fun z => z c36), nI_clamp (by omega)]; first | done | rfl)) (by first
                  | (rw [if_neg (fun z => z c9), if_neg (by omega), if_neg (fun z => z c36), nI_clamp (by omega)]; first | done | rfl))
            · skip
              have c50 : i < k := Nat.lt_of_not_le (fun q => c50 (nI_le q (by omega)))
              refine j_aload0 hE dX11_drift_53 ?_
              refine j_V0v hE mX11_294 (c_X11_dayByDraws l C hC _ hh ww nl nc (MW.ddn h.rem hh0 (sd_rem hs) i).1 hh0 (MW.ddn h.rem hh0 (sd_rem hs) i).2) dX11_drift_54 (by first | assumption | rfl) (by decide) (Nat.le_of_ble_eq_true rfl) ?_
              refine j_iinc2 hE (nI (i + 1)) dX11_drift_57 (nI_inc _) rfl ?_
              refine j_goto hE 48 dX11_drift_60 (by decide) ?_
              exact ih (i + 1) (by omega) (by omega)
        exact L48 (k + 1) 0 (by omega) (by omega)
      · skip
        refine j_ldc hE dX11_drift_39 kX11_101 ?_
        exact j_iret hE hR dX11_drift_41 (by first
            | (rw [if_neg (fun z => z c9), if_neg (by omega), if_pos c36]; first | done | rfl)) (by first
            | (rw [if_neg (fun z => z c9), if_neg (by omega), if_pos c36]; first | done | rfl))
    · skip
      have hh0 : hh = 0 := (nI_z (Nat.le_trans h.2.2.1 (by decide))).mp (by rw [← h.1]; exact c19)
      refine j_ldcw hE dX11_drift_22 kX11_269 ?_
      exact j_iret hE hR dX11_drift_25 (by first
          | (rw [if_neg (fun z => z c9), if_pos hh0]; first | done | rfl)) (by first
          | (rw [if_neg (fun z => z c9), if_pos hh0]; first | done | rfl))
  · skip
    refine j_ldc hE dX11_drift_12 kX11_97 ?_
    exact j_iret hE hR dX11_drift_14 (by first
        | (rw [if_pos c9]; first | done | rfl)) (by first
        | (rw [if_pos c9]; first | done | rfl))

def mundS (S : Sto) (u : Nat) : Sto := upA (up2 S 114 32 (nI (u - 1))) 119 (cpN 34 (fun k => S 128 (34 * (u - 1) + k)) (S 119))
theorem upA_ne_self2 (S : Sto) {a b : Nat} {k : Nat} (v : Int32) (h : b ≠ a) : upA (up2 S a k v) b (S b) = up2 S a k v := by
  unfold up2
  exact upA_ne_self S _ h
set_option maxHeartbeats 4000000 in
set_option maxRecDepth 100000 in
theorem c_X11_undo (l : Launch) (C : JC) (hC : JInj C) (S : Sto) (u : Nat) (hu : S 114 32 = nI u) (hul : u ≤ 16)  : Con l C yX11_undo cX11_undo 2 (some .int) 2 [.ref (C.2.1 114)] S (some (.int (if u = 0 then -1000000003 else nI (u - 1)))) (if u = 0 then S else mundS S u) := by
  refine con_of RX11 1 [some (.ref (C.2.1 114)), none] (by decide) rfl hC (Nat.le_of_ble_eq_true rfl) rfl (Nat.le_of_ble_eq_true rfl) (fun E hE hR => ?_)
  refine j_aload0 hE dX11_undo_0 ?_
  refine j_geti hE fX11_201 dX11_undo_1 (by first | assumption | rfl) ?_
  refine j_ifne hE 11 dX11_undo_4 (by decide) (fun c4 => ?_) (fun c4 => ?_)
  · skip
    have hu0 : u ≠ 0 := fun z => c4 (by rw [hu, z]; rfl)
    refine j_aload0 hE dX11_undo_11 ?_
    refine j_dup hE dX11_undo_12 rfl ?_
    refine j_geti hE fX11_201 dX11_undo_13 (by first | assumption | rfl) ?_
    refine j_iconst hE (nI 1) dX11_undo_16 kiconst_1 ?_
    refine j_isub hE dX11_undo_17 ?_
    refine j_puti hE pX11_201 dX11_undo_18 (by first | assumption | rfl) rfl rfl ?_
    refine j_eqS (S' := up2 S 114 32 (nI (u - 1))) (by rw [hu, nI_dec hu0]) ?_
    refine j_iconst hE (nI 0) dX11_undo_21 kiconst_0 ?_
    refine j_istore1 hE dX11_undo_22 rfl ?_
    have L23 : ∀ (fu : Nat) (i : Nat), 34 - i < fu → (i ≤ 34) → J C E (upA (up2 S 114 32 (nI (u - 1))) 119 (cpN i (fun k => S 128 (34 * (u - 1) + k)) (S 119))) 23 [some (.ref (C.2.1 114)), some (.int (nI i))] [] := by
      intro fu
      induction fu with
      | zero => intro i hm; omega
      | succ fu ih =>
        intro i hm hi
        refine j_iload1 hE dX11_undo_23 ?_
        refine j_bipush hE (nI 34) dX11_undo_24 kbipush_34 ?_
        refine j_icmpge hE 55 dX11_undo_26 (by decide) (fun c26 => ?_) (fun c26 => ?_)
        · skip
          have c26 := (nI_leI (by omega) (by omega)).mp c26
          have hii : i = 34 := by omega
          subst hii
          refine j_aload0 hE dX11_undo_55 ?_
          refine j_geti hE fX11_201 dX11_undo_56 (by first | assumption | rfl) ?_
          exact j_iret hE hR dX11_undo_59 (by rw [if_neg hu0, upA_ne _ _ (by decide), up2_same, pk_us]) (by rw [if_neg hu0]; rfl)
        · skip
          have c26 : i < 34 := Nat.lt_of_not_le (fun q => c26 (nI_le q (by omega)))
          refine j_aload0 hE dX11_undo_29 ?_
          refine j_getr hE fX11_22 dX11_undo_30 (j := 119) (by first | assumption | rfl) (rfl) ?_
          refine j_iload1 hE dX11_undo_33 ?_
          refine j_aload0 hE dX11_undo_34 ?_
          refine j_getr hE fX11_53 dX11_undo_35 (j := 128) (by first | assumption | rfl) (rfl) ?_
          refine j_bipush hE (nI 34) dX11_undo_38 kbipush_34 ?_
          refine j_aload0 hE dX11_undo_40 ?_
          refine j_geti hE fX11_201 dX11_undo_41 (by first | assumption | rfl) ?_
          refine j_imul hE dX11_undo_44 ?_
          refine j_iload1 hE dX11_undo_45 ?_
          refine j_iadd hE dX11_undo_46 ?_
          refine j_top (y := nI (34 * (u - 1) + i)) (by rw [upA_ne _ _ (by decide), up2_same, pk_us, pk_mul, nI_add]) ?_
          refine j_ialdN hE dX11_undo_47 (by first | assumption | rfl) (by omega) (by decide) ?_
          refine j_top (y := (fun k => S 128 (34 * (u - 1) + k)) i) (by rw [upA_ne _ _ (by decide), up2_ne _ _ _ (by decide)]) ?_
          refine j_iastN hE dX11_undo_48 (by first | assumption | rfl) (by omega) (by decide) ?_
          refine j_iinc1 hE (nI (i + 1)) dX11_undo_49 (nI_inc _) rfl ?_
          refine j_goto hE 23 dX11_undo_52 (by decide) ?_
          exact j_cast (by rw [up2_upA, cpN_s]) rfl (ih (i + 1) (by omega) (by omega))
    exact j_cast (by rw [cpN_0]; exact (upA_ne_self2 _ _ (by decide)).symm) rfl (L23 35 0 (by omega) (by omega))
  · skip
    have hu0 : u = 0 := (nI_z (by omega)).mp (by rw [← hu]; exact c4)
    refine j_ldcw hE dX11_undo_7 kX11_269 ?_
    exact j_iret hE hR dX11_undo_10 (by rw [if_pos hu0]) (by rw [if_pos hu0])

set_option maxHeartbeats 4000000 in
set_option maxRecDepth 100000 in
theorem c_X11_copyRow (l : Launch) (C : JC) (hC : JInj C) (S : Sto) (a b na nb m : Nat) (ha : jsh a = (1, na)) (hb : jsh b = (1, nb)) (hab : a ≠ b) (h1 : m ≤ na) (h2 : m ≤ nb) (h3 : na < 1000) (h4 : nb < 1000) : Con l C yX11_copyRow cX11_copyRow 4 none 1 [.ref (C.2.1 a), .ref (C.2.1 b), .int (nI m)] S none (upA S b (cpN m (S a) (S b))) := by
  refine con_of RX11 1 [some (.ref (C.2.1 a)), some (.ref (C.2.1 b)), some (.int (nI m)), none] (by decide) rfl hC (Nat.le_of_ble_eq_true rfl) rfl (Nat.le_of_ble_eq_true rfl) (fun E hE hR => ?_)
  refine j_iconst hE (nI 0) dX11_copyRow_0 kiconst_0 ?_
  refine j_istore3 hE dX11_copyRow_1 rfl ?_
  have L2 : ∀ (fu : Nat) (i : Nat), m - i < fu → (i ≤ m) → J C E (upA S b (cpN i (S a) (S b))) 2 [some (.ref (C.2.1 a)), some (.ref (C.2.1 b)), some (.int (nI m)), some (.int (nI i))] [] := by
    intro fu
    induction fu with
    | zero => intro i hm; omega
    | succ fu ih =>
      intro i hm hi
      refine j_iload3 hE dX11_copyRow_2 ?_
      refine j_iload2 hE dX11_copyRow_3 ?_
      refine j_icmpge hE 19 dX11_copyRow_4 (by decide) (fun c4 => ?_) (fun c4 => ?_)
      · skip
        have c4 := (nI_leI (by omega) (by omega)).mp c4
        have hii : i = m := by omega
        subst hii
        exact j_vret hE hR dX11_copyRow_19 (rfl)
      · skip
        have c4 : i < m := Nat.lt_of_not_le (fun q => c4 (nI_le q (by omega)))
        refine j_aload1 hE dX11_copyRow_7 ?_
        refine j_iload3 hE dX11_copyRow_8 ?_
        refine j_aload0 hE dX11_copyRow_9 ?_
        refine j_iload3 hE dX11_copyRow_10 ?_
        refine j_ialdN hE dX11_copyRow_11 ha (by omega) (by omega) ?_
        refine j_iastN hE dX11_copyRow_12 hb (by omega) (by omega) ?_
        refine j_iinc3 hE (nI (i + 1)) dX11_copyRow_13 (nI_inc _) rfl ?_
        refine j_goto hE 2 dX11_copyRow_16 (by decide) ?_
        exact j_cast (by rw [up2_upA, upA_ne _ _ hab, cpN_s]) rfl (ih (i + 1) (by omega) (by omega))
  exact j_cast (by rw [cpN_0, upA_self]) rfl (L2 (m + 1) 0 (by omega) (by omega))

def bfS (S : Sto) : Sto := upA S 129 (cpN 34 (S 119) (S 129))
def bkS (S : Sto) : Sto := upA S 119 (cpN 34 (S 129) (S 119))
def sbT (S : Sto) (hh ww nl nc : Nat) (r : Int32) (n : Nat) : Sto := mpsS (bfS S) hh ww nl nc r n
def sbV (S : Sto) (hh ww nl nc : Nat) (r : Int32) (n : Nat) : Int32 := mshF (sbT S hh ww nl nc r n 119) (hh * ww)
def sbS (S : Sto) (hh ww nl nc : Nat) (r : Int32) (n : Nat) : Sto := bkS (sbT S hh ww nl nc r n)
theorem MW.bf {S : Sto} {hh ww nl nc : Nat} (h : MW S hh ww nl nc) : MW (bfS S) hh ww nl nc :=
  h.of (fun k _ => by unfold bfS; rw [upA_ne _ _ (by decide)]) (upA_ne _ _ (by decide)) (upA_ne _ _ (by decide)) (fun c _ => by unfold bfS; rw [upA_ne _ _ (by decide)])
theorem bk_now {S : Sto} {hh ww nl nc : Nat} {r : Int32} {n k : Nat} (hk : k < 34) : sbS S hh ww nl nc r n 119 k = S 119 k := by
  unfold sbS bkS
  rw [upA_same]
  unfold cpN
  rw [if_pos hk]
  unfold sbT
  rw [mps_o (by omega)]
  unfold bfS
  rw [upA_same]
  unfold cpN
  rw [if_pos hk]
theorem sb_o {S : Sto} {hh ww nl nc : Nat} {r : Int32} {n i : Nat} (h : i < 119 ∨ (119 < i ∧ i < 125) ∨ 129 < i) : sbS S hh ww nl nc r n i = S i := by
  unfold sbS bkS
  rw [upA_ne _ _ (by omega)]
  unfold sbT
  rw [mps_o (by omega)]
  unfold bfS
  rw [upA_ne _ _ (by omega)]
theorem MW.sb {S : Sto} {hh ww nl nc : Nat} {r : Int32} {n : Nat} (h : MW S hh ww nl nc) : MW (sbS S hh ww nl nc r n) hh ww nl nc :=
  h.of (fun k _ => by rw [sb_o (by omega)]) (sb_o (by omega)) (sb_o (by omega)) (fun c hc => bk_now (by have := h.2.2.2.2.2.2.1; omega))
set_option maxHeartbeats 4000000 in
set_option maxRecDepth 100000 in
theorem c_X11_shownBy (l : Launch) (C : JC) (hC : JInj C) (S : Sto) (hh ww nl nc : Nat) (h : MW S hh ww nl nc) (h0 : 0 < hh) (n : Nat) (hn : n < 2 ^ 31) (r : Int32) : Con l C yX11_shownBy cX11_shownBy 4 (some .int) 5 [.ref (C.2.1 114), .int (nI n), .int r] S (some (.int (sbV S hh ww nl nc r n))) (sbS S hh ww nl nc r n) := by
  refine con_of RX11 1 [some (.ref (C.2.1 114)), some (.int (nI n)), some (.int r), none] (by decide) rfl hC (Nat.le_of_ble_eq_true rfl) rfl (Nat.le_of_ble_eq_true rfl) (fun E hE hR => ?_)
  refine j_aload0 hE dX11_shownBy_0 ?_
  refine j_getr hE fX11_22 dX11_shownBy_1 (j := 119) (by first | assumption | rfl) (rfl) ?_
  refine j_aload0 hE dX11_shownBy_4 ?_
  refine j_getr hE fX11_56 dX11_shownBy_5 (j := 129) (by first | assumption | rfl) (rfl) ?_
  refine j_bipush hE (nI 34) dX11_shownBy_8 kbipush_34 ?_
  refine j_S3v hE mX11_188 (c_X11_copyRow l C hC _ 119 129 34 34 34 rfl rfl (by decide) (by decide) (by decide) (by decide) (by decide)) dX11_shownBy_10 (by decide) (Nat.le_of_ble_eq_true rfl) ?_
  refine j_iconst hE (nI 0) dX11_shownBy_13 kiconst_0 ?_
  refine j_istore3 hE dX11_shownBy_14 rfl ?_
  have L15 : ∀ (fu : Nat) (i : Nat), n - i < fu → (i ≤ n) → J C E (mpsS (bfS S) hh ww nl nc r i) 15 [some (.ref (C.2.1 114)), some (.int (nI n)), some (.int r), some (.int (nI i))] [] := by
    intro fu
    induction fu with
    | zero => intro i hm; omega
    | succ fu ih =>
      intro i hm hi
      refine j_iload3 hE dX11_shownBy_15 ?_
      refine j_iload1 hE dX11_shownBy_16 ?_
      refine j_icmpge hE 31 dX11_shownBy_17 (by decide) (fun c17 => ?_) (fun c17 => ?_)
      · skip
        have c17 := (nI_leI (by omega) (by omega)).mp c17
        have hii : n = i := by omega
        subst hii
        refine j_aload0 hE dX11_shownBy_31 ?_
        refine j_V0i hE mX11_204 (c_X11_shows l C hC _ (hh * ww) (MW.cl (MW.ps h.bf n)) h.le) dX11_shownBy_32 (by first | assumption | rfl) (by decide) (Nat.le_of_ble_eq_true rfl) ?_
        refine j_istore3 hE dX11_shownBy_35 rfl ?_
        refine j_aload0 hE dX11_shownBy_36 ?_
        refine j_getr hE fX11_56 dX11_shownBy_37 (j := 129) (by first | assumption | rfl) (rfl) ?_
        refine j_aload0 hE dX11_shownBy_40 ?_
        refine j_getr hE fX11_22 dX11_shownBy_41 (j := 119) (by first | assumption | rfl) (rfl) ?_
        refine j_bipush hE (nI 34) dX11_shownBy_44 kbipush_34 ?_
        refine j_S3v hE mX11_188 (c_X11_copyRow l C hC _ 129 119 34 34 34 rfl rfl (by decide) (by decide) (by decide) (by decide) (by decide)) dX11_shownBy_46 (by decide) (Nat.le_of_ble_eq_true rfl) ?_
        refine j_iload3 hE dX11_shownBy_49 ?_
        exact j_iret hE hR dX11_shownBy_50 (rfl) (rfl)
      · skip
        have c17 : i < n := Nat.lt_of_not_le (fun q => c17 (nI_le q (by omega)))
        refine j_aload0 hE dX11_shownBy_20 ?_
        refine j_iload2 hE dX11_shownBy_21 ?_
        refine j_V1v hE mX11_273 (cM_pass l C hC _ hh ww nl nc (MW.ps h.bf i) h0 r) dX11_shownBy_22 (by first | assumption | rfl) (by decide) (Nat.le_of_ble_eq_true rfl) ?_
        refine j_iinc3 hE (nI (i + 1)) dX11_shownBy_25 (nI_inc _) rfl ?_
        refine j_goto hE 15 dX11_shownBy_28 (by decide) ?_
        exact ih (i + 1) (by omega) (by omega)
  exact L15 (n + 1) 0 (by omega) (by omega)

