theorem i_X1 (l : Launch) (C : JC) (hC : CAd C) (b : Nat) (h0 : jsh b = (0, 1)) (h1 : jsh (b + 1) = (1, 25)) (h2 : jsh (b + 2) = (1, 4)) (hb : 1 < b ∧ b + 2 < 114) : GCon l C yX1_init cX1_init 1 1 2 29 b 3 (.inr (1, dfl 1)) (jcell C S0) := by
  refine gcon_of RX1 0 (by decide) rfl rfl hC (by decide) (fun E hE hcap hR => ?_)
  refine g_aload hE dX1_init_0 rfl ?_
  refine g_objInit hE oX1_3 wOI wOC dX1_init_1 (by decide) ?_
  refine g_aload hE dX1_init_4 rfl ?_
  refine g_bipush hE (nI 25) dX1_init_5 (by decide) ?_
  refine g_newa hE (at' := .int) (ty := .int) (cA := C.2.2.1) rfl (by simp [jty]) (Or.inl rfl) wInt (N := 25) (by decide) dX1_init_7 (hcap.le (by decide) (by decide)) ?_
  refine g_putr hE (j := 0) (fs := (dfl 1)) rX1_9 dX1_init_9 (by decide) (by simp [vset]) rfl ?_
  refine g_aload hE dX1_init_12 rfl ?_
  refine g_iconst hE (nI 4) dX1_init_13 (by decide) ?_
  refine g_newa hE (at' := .int) (ty := .int) (cA := C.2.2.1) rfl (by simp [jty]) (Or.inl rfl) wInt (N := 4) (by decide) dX1_init_14 (hcap.le (by decide) (by decide)) ?_
  refine g_putr hE (j := 0) (fs := ((dfl 1).set 0 (.ref (C.2.1 (b + 1))))) rX1_15 dX1_init_16 (by decide) (by simp [vset]) rfl ?_
  refine g_ret hE hR dX1_init_19 (hcap.le (by decide) (by decide)) (fun j hj => ?_)
  rcases (show j = 0 ∨ j = 1 ∨ j = 2 by omega) with rfl | rfl | rfl
  · have e : (List.range (nfl 1)).map (jfv C S0 1 b) = [.ref (C.2.1 (b + 1 + 0)), .ref (C.2.1 (b + 1 + 1)), .int (nI 0), .int (nI 0), .int (nI 0), .int (nI 0), .int (nI 0)] := by
      show [jfv C S0 1 b 0, jfv C S0 1 b 1, jfv C S0 1 b 2, jfv C S0 1 b 3, jfv C S0 1 b 4, jfv C S0 1 b 5, jfv C S0 1 b 6] = _
      rw [jfr h0 (by decide) rfl, jfr h0 (by decide) rfl, jfi (by omega) (by omega) (by omega) rfl, jfi (by omega) (by omega) (by omega) rfl, jfi (by omega) (by omega) (by omega) rfl, jfi (by omega) (by omega) (by omega) rfl, jfi (by omega) (by omega) (by omega) rfl]
    show _ = jcell C S0 b
    rw [jcell_o C S0 h0, e]
    rw [vset_s]
    rfl
  · simp [vset]
    exact fin_a h1 (by omega) (by omega) (by omega)
  · simp [vset]
    exact fin_a h2 (by omega) (by omega) (by omega)
theorem i_X3 (l : Launch) (C : JC) (hC : CAd C) (b : Nat) (h0 : jsh b = (0, 3)) (h1 : jsh (b + 1) = (1, 25)) (h2 : jsh (b + 2) = (1, 25)) (hb : 1 < b ∧ b + 2 < 114) : GCon l C yX3_init cX3_init 1 1 2 50 b 3 (.inr (3, dfl 3)) (jcell C S0) := by
  refine gcon_of RX3 0 (by decide) rfl rfl hC (by decide) (fun E hE hcap hR => ?_)
  refine g_aload hE dX3_init_0 rfl ?_
  refine g_objInit hE oX3_3 wOI wOC dX3_init_1 (by decide) ?_
  refine g_aload hE dX3_init_4 rfl ?_
  refine g_bipush hE (nI 25) dX3_init_5 (by decide) ?_
  refine g_newa hE (at' := .int) (ty := .int) (cA := C.2.2.1) rfl (by simp [jty]) (Or.inl rfl) wInt (N := 25) (by decide) dX3_init_7 (hcap.le (by decide) (by decide)) ?_
  refine g_putr hE (j := 0) (fs := (dfl 3)) rX3_9 dX3_init_9 (by decide) (by simp [vset]) rfl ?_
  refine g_aload hE dX3_init_12 rfl ?_
  refine g_bipush hE (nI 25) dX3_init_13 (by decide) ?_
  refine g_newa hE (at' := .int) (ty := .int) (cA := C.2.2.1) rfl (by simp [jty]) (Or.inl rfl) wInt (N := 25) (by decide) dX3_init_15 (hcap.le (by decide) (by decide)) ?_
  refine g_putr hE (j := 0) (fs := ((dfl 3).set 0 (.ref (C.2.1 (b + 1))))) rX3_15 dX3_init_17 (by decide) (by simp [vset]) rfl ?_
  refine g_ret hE hR dX3_init_20 (hcap.le (by decide) (by decide)) (fun j hj => ?_)
  rcases (show j = 0 ∨ j = 1 ∨ j = 2 by omega) with rfl | rfl | rfl
  · have e : (List.range (nfl 3)).map (jfv C S0 3 b) = [.ref (C.2.1 (b + 1 + 0)), .ref (C.2.1 (b + 1 + 1))] := by
      show [jfv C S0 3 b 0, jfv C S0 3 b 1] = _
      rw [jfr h0 (by decide) rfl, jfr h0 (by decide) rfl]
    show _ = jcell C S0 b
    rw [jcell_o C S0 h0, e]
    rw [vset_s]
    rfl
  · simp [vset]
    exact fin_a h1 (by omega) (by omega) (by omega)
  · simp [vset]
    exact fin_a h2 (by omega) (by omega) (by omega)
theorem i_X7 (l : Launch) (C : JC) (hC : CAd C) (b : Nat) (h0 : jsh b = (0, 6)) (h1 : jsh (b + 1) = (1, 4)) (h2 : jsh (b + 2) = (1, 6)) (h3 : jsh (b + 3) = (1, 6)) (h4 : jsh (b + 4) = (1, 5)) (hb : 1 < b ∧ b + 4 < 114) : GCon l C yX7_init cX7_init 1 1 4 21 b 5 (.inr (6, dfl 6)) (jcell C S0) := by
  refine gcon_of RX7 0 (by decide) rfl rfl hC (by decide) (fun E hE hcap hR => ?_)
  refine g_aload hE dX7_init_0 rfl ?_
  refine g_objInit hE oX7_3 wOI wOC dX7_init_1 (by decide) ?_
  refine g_aload hE dX7_init_4 rfl ?_
  refine g_iconst hE (nI 4) dX7_init_5 (by decide) ?_
  refine g_newa hE (at' := .int) (ty := .int) (cA := C.2.2.1) rfl (by simp [jty]) (Or.inl rfl) wInt (N := 4) (by decide) dX7_init_6 (hcap.le (by decide) (by decide)) ?_
  refine g_putr hE (j := 0) (fs := (dfl 6)) rX7_9 dX7_init_8 (by decide) (by simp [vset]) rfl ?_
  refine g_aload hE dX7_init_11 rfl ?_
  refine g_bipush hE (nI 6) dX7_init_12 (by decide) ?_
  refine g_newa hE (at' := .int) (ty := .int) (cA := C.2.2.1) rfl (by simp [jty]) (Or.inl rfl) wInt (N := 6) (by decide) dX7_init_14 (hcap.le (by decide) (by decide)) ?_
  refine g_putr hE (j := 0) (fs := ((dfl 6).set 0 (.ref (C.2.1 (b + 1))))) rX7_15 dX7_init_16 (by decide) (by simp [vset]) rfl ?_
  refine g_aload hE dX7_init_19 rfl ?_
  refine g_bipush hE (nI 6) dX7_init_20 (by decide) ?_
  refine g_newa hE (at' := .int) (ty := .int) (cA := C.2.2.1) rfl (by simp [jty]) (Or.inl rfl) wInt (N := 6) (by decide) dX7_init_22 (hcap.le (by decide) (by decide)) ?_
  refine g_putr hE (j := 0) (fs := (((dfl 6).set 0 (.ref (C.2.1 (b + 1)))).set 1 (.ref (C.2.1 (b + 2))))) rX7_18 dX7_init_24 (by decide) (by simp [vset]) rfl ?_
  refine g_aload hE dX7_init_27 rfl ?_
  refine g_iconst hE (nI 5) dX7_init_28 (by decide) ?_
  refine g_newa hE (at' := .int) (ty := .int) (cA := C.2.2.1) rfl (by simp [jty]) (Or.inl rfl) wInt (N := 5) (by decide) dX7_init_29 (hcap.le (by decide) (by decide)) ?_
  refine g_putr hE (j := 0) (fs := ((((dfl 6).set 0 (.ref (C.2.1 (b + 1)))).set 1 (.ref (C.2.1 (b + 2)))).set 2 (.ref (C.2.1 (b + 3))))) rX7_21 dX7_init_31 (by decide) (by simp [vset]) rfl ?_
  refine g_ret hE hR dX7_init_34 (hcap.le (by decide) (by decide)) (fun j hj => ?_)
  rcases (show j = 0 ∨ j = 1 ∨ j = 2 ∨ j = 3 ∨ j = 4 by omega) with rfl | rfl | rfl | rfl | rfl
  · have e : (List.range (nfl 6)).map (jfv C S0 6 b) = [.ref (C.2.1 (b + 1 + 0)), .ref (C.2.1 (b + 1 + 1)), .ref (C.2.1 (b + 1 + 2)), .ref (C.2.1 (b + 1 + 3)), .int (nI 0), .int (nI 0), .int (nI 0), .int (nI 0), .int (nI 0), .int (nI 0), .int (nI 0), .int (nI 0)] := by
      show [jfv C S0 6 b 0, jfv C S0 6 b 1, jfv C S0 6 b 2, jfv C S0 6 b 3, jfv C S0 6 b 4, jfv C S0 6 b 5, jfv C S0 6 b 6, jfv C S0 6 b 7, jfv C S0 6 b 8, jfv C S0 6 b 9, jfv C S0 6 b 10, jfv C S0 6 b 11] = _
      rw [jfr h0 (by decide) rfl, jfr h0 (by decide) rfl, jfr h0 (by decide) rfl, jfr h0 (by decide) rfl, jfi (by omega) (by omega) (by omega) rfl, jfi (by omega) (by omega) (by omega) rfl, jfi (by omega) (by omega) (by omega) rfl, jfi (by omega) (by omega) (by omega) rfl, jfi (by omega) (by omega) (by omega) rfl, jfi (by omega) (by omega) (by omega) rfl, jfi (by omega) (by omega) (by omega) rfl, jfi (by omega) (by omega) (by omega) rfl]
    show _ = jcell C S0 b
    rw [jcell_o C S0 h0, e]
    rw [vset_s]
    rfl
  · simp [vset]
    exact fin_a h1 (by omega) (by omega) (by omega)
  · simp [vset]
    exact fin_a h2 (by omega) (by omega) (by omega)
  · simp [vset]
    exact fin_a h3 (by omega) (by omega) (by omega)
  · simp [vset]
    exact fin_a h4 (by omega) (by omega) (by omega)
theorem i_X0 (l : Launch) (C : JC) (hC : CAd C) (b : Nat) (h0 : jsh b = (0, 0)) (h1 : jsh (b + 1) = (1, 15)) (h2 : jsh (b + 2) = (1, 15)) (hb : 1 < b ∧ b + 2 < 114) : GCon l C yX0_init cX0_init 1 1 2 30 b 3 (.inr (0, dfl 0)) (jcell C S0) := by
  refine gcon_of RX0 0 (by decide) rfl rfl hC (by decide) (fun E hE hcap hR => ?_)
  refine g_aload hE dX0_init_0 rfl ?_
  refine g_objInit hE oX0_3 wOI wOC dX0_init_1 (by decide) ?_
  refine g_aload hE dX0_init_4 rfl ?_
  refine g_bipush hE (nI 15) dX0_init_5 (by decide) ?_
  refine g_newa hE (at' := .int) (ty := .int) (cA := C.2.2.1) rfl (by simp [jty]) (Or.inl rfl) wInt (N := 15) (by decide) dX0_init_7 (hcap.le (by decide) (by decide)) ?_
  refine g_putr hE (j := 0) (fs := (dfl 0)) rX0_9 dX0_init_9 (by decide) (by simp [vset]) rfl ?_
  refine g_aload hE dX0_init_12 rfl ?_
  refine g_bipush hE (nI 15) dX0_init_13 (by decide) ?_
  refine g_newa hE (at' := .int) (ty := .int) (cA := C.2.2.1) rfl (by simp [jty]) (Or.inl rfl) wInt (N := 15) (by decide) dX0_init_15 (hcap.le (by decide) (by decide)) ?_
  refine g_putr hE (j := 0) (fs := ((dfl 0).set 0 (.ref (C.2.1 (b + 1))))) rX0_15 dX0_init_17 (by decide) (by simp [vset]) rfl ?_
  refine g_ret hE hR dX0_init_20 (hcap.le (by decide) (by decide)) (fun j hj => ?_)
  rcases (show j = 0 ∨ j = 1 ∨ j = 2 by omega) with rfl | rfl | rfl
  · have e : (List.range (nfl 0)).map (jfv C S0 0 b) = [.ref (C.2.1 (b + 1 + 0)), .ref (C.2.1 (b + 1 + 1)), .int (nI 0)] := by
      show [jfv C S0 0 b 0, jfv C S0 0 b 1, jfv C S0 0 b 2] = _
      rw [jfr h0 (by decide) rfl, jfr h0 (by decide) rfl, jfi (by omega) (by omega) (by omega) rfl]
    show _ = jcell C S0 b
    rw [jcell_o C S0 h0, e]
    rw [vset_s]
    rfl
  · simp [vset]
    exact fin_a h1 (by omega) (by omega) (by omega)
  · simp [vset]
    exact fin_a h2 (by omega) (by omega) (by omega)
theorem i_X2 (l : Launch) (C : JC) (hC : CAd C) (b : Nat) (h0 : jsh b = (0, 2)) (hb : 1 < b ∧ b + 0 < 114) : GCon l C yX2_init cX2_init 1 1 0 0 b 1 (.inr (2, dfl 2)) (jcell C S0) := by
  refine gcon_of RX2 0 (by decide) rfl rfl hC (by decide) (fun E hE hcap hR => ?_)
  refine g_aload hE dX2_init_0 rfl ?_
  refine g_objInit hE oX2_1 wOI wOC dX2_init_1 (by decide) ?_
  refine g_ret hE hR dX2_init_4 (hcap.le (by decide) (by decide)) (fun j hj => ?_)
  rcases (show j = 0 by omega) with rfl
  · have e : (List.range (nfl 2)).map (jfv C S0 2 b) = [.int (nI 0)] := by
      show [jfv C S0 2 b 0] = _
      rw [jfi (by omega) (by omega) (by omega) rfl]
    show _ = jcell C S0 b
    rw [jcell_o C S0 h0, e]
    rfl
theorem i_X8 (l : Launch) (C : JC) (hC : CAd C) : GCon l C yX8_init cX8_init 1 1 1 240 1 2 (.inr (7, dfl 7)) (jcell C S0) := by
  refine gcon_of RX8 0 (by decide) rfl rfl hC (by decide) (fun E hE hcap hR => ?_)
  refine g_aload hE dX8_init_0 rfl ?_
  refine g_objInit hE oX8_3 wOI wOC dX8_init_1 (by decide) ?_
  refine g_aload hE dX8_init_4 rfl ?_
  refine g_sipush hE (nI 240) dX8_init_5 (by decide) ?_
  refine g_newa hE (at' := .int) (ty := .int) (cA := C.2.2.1) rfl (by simp [jty]) (Or.inl rfl) wInt (N := 240) (by decide) dX8_init_8 (hcap.le (by decide) (by decide)) ?_
  refine g_putr hE (j := 0) (fs := (dfl 7)) rX8_9 dX8_init_10 (by decide) (by simp [vset]) rfl ?_
  refine g_aload hE dX8_init_13 rfl ?_
  refine g_iconst hE (-1) dX8_init_14 (by decide) ?_
  refine g_puti hE (j := 0) (fs := ((dfl 7).set 0 (.ref (C.2.1 (1 + 1))))) pX8_15 dX8_init_15 (by decide) (by simp [vset]) rfl (by decide) (by decide) ?_
  refine g_ret hE hR dX8_init_18 (hcap.le (by decide) (by decide)) (fun j hj => ?_)
  rcases (show j = 0 ∨ j = 1 by omega) with rfl | rfl
  all_goals rfl
