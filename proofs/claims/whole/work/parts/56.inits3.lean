/-! arrays of references, filled one by one -/
def cv2 (C : JC) (b : Nat) (x : va_E) (c : Nat) (y : va_E) : Nat → va_E := fun i => if i = b then x else if i = c then y else jcell C S0 i
theorem cv2_b {C : JC} {b c : Nat} {x y : va_E} : cv2 C b x c y b = x := if_pos rfl
theorem cv2_c {C : JC} {b c : Nat} {x y : va_E} (h : c ≠ b) : cv2 C b x c y c = y := by
  unfold cv2
  rw [if_neg h, if_pos rfl]
theorem cv2_n {C : JC} {b c i : Nat} {x y : va_E} (h : i ≠ b) (h2 : i ≠ c) : cv2 C b x c y i = jcell C S0 i := by
  unfold cv2
  rw [if_neg h, if_neg h2]
theorem cv_2 {C : JC} {b c : Nat} {x y : va_E} (h : c ≠ b) : vset (cv C b x) c y = cv2 C b x c y := by
  funext i
  unfold vset cv cv2
  by_cases h1 : i = c
  · rw [if_pos h1, if_neg (by omega), if_pos h1]
  · rw [if_neg h1, if_neg h1]
theorem cv2_sb {C : JC} {b c : Nat} {x y z : va_E} : vset (cv2 C b x c y) b z = cv2 C b z c y := by
  funext i
  unfold vset cv2
  split <;> rfl
theorem cv2_sc {C : JC} {b c : Nat} {x y z : va_E} (h : c ≠ b) : vset (cv2 C b x c y) c z = cv2 C b x c z := by
  funext i
  unfold vset cv2
  by_cases h1 : i = c
  · rw [if_pos h1, if_neg (by omega), if_pos h1]
  · rw [if_neg h1, if_neg h1]
    split
    · rfl
    · rfl
def raF (C : JC) (c i : Nat) : Nat → Option Nat := fun j => if j < i then some (C.2.1 (rfa c j)) else none
def ra (C : JC) (cA : ClassId) (c N i : Nat) : va_E := .inl (cA, N, .inr (.inr (.inr (.inr (raF C c i)))))
theorem raF_0 (C : JC) (c : Nat) : (fun _ => none : Nat → Option Nat) = raF C c 0 := by
  funext j
  unfold raF
  rw [if_neg (by omega)]
theorem raF_s (C : JC) (c i w : Nat) (h : w = C.2.1 (rfa c i)) : va_up (raF C c i) i (some w) = raF C c (i + 1) := by
  funext j
  unfold va_up raF
  by_cases e : j = i
  · rw [if_pos e, if_pos (by omega), e, h]
  · rw [if_neg e]
    by_cases q : j < i
    · rw [if_pos q, if_pos (by omega)]
    · rw [if_neg q, if_neg (by omega)]
section MRows2
variable {l : Launch} {C : JC} {E : JE} {own : String} {cc : ByteArray} {d b k cl sl : Nat} {V : Nat → va_E} {pc : Nat} {lv : List (Option Value)} {st : List Value}
theorem g_makeV (hE : Gok l C E own cc b d) {y : MethodName} {bytes : ByteArray} {nL' d' mc ms i1 i2 kc ci : Nat} (hn : GN own i1 ci) (hM : GCon l C y bytes nL' d' mc ms (b + k) kc (.inr (ci, dfl ci)) (jcell C S0)) (hc : CIN own i2 y bytes nL' ∨ CIL own i2 y bytes nL') (hV : ∀ j, k ≤ j → V (b + j) = jcell C S0 (b + j)) (hd1 : decode cc pc = .ok (.new i1, 3)) (hd2 : decode cc (pc + 3) = .ok (.dup, 1)) (hd3 : decode cc (pc + 4) = .ok (.invokespecial i2, 3)) (hd' : d' + 1 ≤ d) (hr : (st.map fun v => v.category).sum ≤ 7) (hcap : Gcap E (cl + 1 + mc) (sl + nfl ci + ms)) (kk : G C E V b (k + kc) (cl + 1 + mc) (sl + nfl ci + ms) (pc + 7) lv (.ref (C.2.1 (b + k)) :: st)) : G C E V b k cl sl pc lv st := by
  refine g_new hE hn hd1 (hcap.le (by omega) (by omega)) ?_
  refine g_dup hE hd2 rfl ?_
  have hv : vset V (b + k) (.inr (ci, dfl ci)) (b + k) = .inr (ci, dfl ci) := vset_s
  have fin : G C E (fun i => if i < b + k then vset V (b + k) (.inr (ci, dfl ci)) i else jcell C S0 i) b (k + kc) (cl + 1 + mc) (sl + nfl ci + ms) (pc + 3 + 1 + 3) lv (.ref (C.2.1 (b + k)) :: st) := by
    refine g_V V (fun j hj => ?_) kk
    by_cases q : j < k
    · have e1 : (if b + j < b + k then vset V (b + k) (.inr (ci, dfl ci)) (b + j) else jcell C S0 (b + j)) = vset V (b + k) (.inr (ci, dfl ci)) (b + j) := if_pos (by omega)
      rw [e1, vset_n (by omega)]
    · have e1 : (if b + j < b + k then vset V (b + k) (.inr (ci, dfl ci)) (b + j) else jcell C S0 (b + j)) = jcell C S0 (b + j) := if_neg (by omega)
      rw [e1, hV j (by omega)]
  have hr2 : ((Value.ref (C.2.1 (b + k)) :: st).map fun v => v.category).sum ≤ 8 := by
    rw [List.map_cons, List.sum_cons]
    show 1 + _ ≤ 8
    omega
  rcases hc with hc | hc
  · exact g_call hE hc hM hd3 hd' hv hr2 hcap fin
  · exact g_callL hE hc hM hd3 hd' hv hr2 hcap fin
end MRows2
theorem lp_X9 {l : Launch} {C : JC} {E : JE} {d : Nat} (hC : CAd C) (hE : Gok l C E RX9 cX9_init 9 d) (hd3 : 3 ≤ d) (hcap : Gcap E 31 384) (hR : Gret C E cX9_init 9 32 (jcell C S0)) : ∀ (m i : Nat), i + m = 8 → G C E (cv2 C 9 (om C 8 9 3) 16 (ra C C.2.2.2.2.1 16 8 i)) 9 (8 + 3 * i) (7 + 3 * i) (96 + 36 * i) 37 [some (.ref (C.2.1 9)), some (.int (nI i))] []
  | 0, i, hm => by
    have hi : i = 8 := by omega
    subst hi
    refine g_iload hE dX9_init_37 rfl ?_
    refine g_aload hE dX9_init_38 rfl ?_
    refine g_getr hE (j := 0) (fs := omL C 8 9 3) (x := C.2.1 16) fX9_25 dX9_init_39 (by omega) (by rw [Nat.add_zero]; exact cv2_b) rfl ?_
    refine g_alen hE (j := 7) (N := 8) (cA := C.2.2.2.2.1) (ty := .object RX1) (fn := raF C 16 8) dX9_init_42 (by simp [jty]) (by omega) (cv2_c (by decide)) ?_
    refine g_icmpge hE 65 dX9_init_43 (by decide) (fun _ => ?_) (fun q => absurd (Int32.le_refl _) q)
    refine g_conv (j := 7) (jcell C S0 16) (by omega) ?_ ?_
    · rw [show 9 + 7 = 16 from rfl, cv2_c (by decide), jcell_3 C S0 (show jsh 16 = (3, 8) from rfl)]
      exact arr_conv (fun j hj => if_pos hj)
    refine g_ret hE hR dX9_init_65 (hcap.le (by omega) (by omega)) (fun j hj => ?_)
    rw [show 9 + 7 = 16 from rfl, cv2_sc (by decide)]
    by_cases q : j = 0
    · subst q
      rw [Nat.add_zero, cv2_b]
      exact om_all rfl (fun f h1 h2 => by
        have h2 : f < 8 := h2
        rcases (show f = 3 ∨ f = 4 ∨ f = 5 ∨ f = 6 ∨ f = 7 by omega) with rfl | rfl | rfl | rfl | rfl <;> exact ⟨rfl, rfl⟩)
    · by_cases q2 : j = 7
      · subst q2
        exact cv2_c (by decide)
      · exact cv2_n (by omega) (by omega)
  | m + 1, i, hm => by
    refine g_iload hE dX9_init_37 rfl ?_
    refine g_aload hE dX9_init_38 rfl ?_
    refine g_getr hE (j := 0) (fs := omL C 8 9 3) (x := C.2.1 16) fX9_25 dX9_init_39 (by omega) (by rw [Nat.add_zero]; exact cv2_b) rfl ?_
    refine g_alen hE (j := 7) (N := 8) (cA := C.2.2.2.2.1) (ty := .object RX1) (fn := raF C 16 i) dX9_init_42 (by simp [jty]) (by omega) (cv2_c (by decide)) ?_
    refine g_icmpge hE 65 dX9_init_43 (by decide) (fun q => absurd q (nI_ge (by omega) (by omega))) (fun _ => ?_)
    refine g_aload hE dX9_init_46 rfl ?_
    refine g_getr hE (j := 0) (fs := omL C 8 9 3) (x := C.2.1 16) fX9_25 dX9_init_47 (by omega) (by rw [Nat.add_zero]; exact cv2_b) rfl ?_
    refine g_iload hE dX9_init_50 rfl ?_
    have ea : 9 + (8 + 3 * i) = 17 + 3 * i := by omega
    obtain ⟨hsh, hs1, hs2⟩ := stg_sh i (by omega)
    have hM : GCon l C yX1_init cX1_init 1 1 2 29 (9 + (8 + 3 * i)) 3 (.inr (1, dfl 1)) (jcell C S0) := by rw [ea]; exact i_X1 l C hC _ hsh hs1 hs2 ⟨by omega, by omega⟩
    refine g_makeV hE (kc := 3) nX9_18 hM (Or.inl vX9_20) (fun j hj => cv2_n (by omega) (by omega)) dX9_init_51 dX9_init_54 dX9_init_55 (by omega) (Nat.le_of_ble_eq_true rfl) (hcap.le (by omega) (by have : nfl 1 = 7 := rfl; omega)) ?_
    refine g_aast hE (j := 7) (i := i) (N := 8) (w := 8 + 3 * i) (ci := 1) (cA := C.2.2.2.2.1) (fs := (List.range (nfl 1)).map (jfv C S0 1 (9 + (8 + 3 * i)))) (fn := raF C 16 i) dX9_init_58 (by decide) (List.mem_of_getElem? (i := 2) rfl) (by omega) (cv2_c (by decide)) (by omega) (by rw [cv2_n (by omega) (by omega)]; exact jcell_o C S0 (by rw [ea]; exact hsh)) (by omega) (by decide) ?_
    refine g_iinc hE (nI (i + 1)) dX9_init_59 rfl (nI_inc i) rfl ?_
    refine g_goto hE 37 dX9_init_62 (by decide) ?_
    rw [raF_s C 16 i _ (by rw [ea]; rfl), show 9 + 7 = 16 from rfl, cv2_sc (by decide)]
    have e1 : 8 + 3 * i + 3 = 8 + 3 * (i + 1) := by omega
    have e2 : 7 + 3 * i + 1 + 2 = 7 + 3 * (i + 1) := by omega
    have e3 : 96 + 36 * i + nfl 1 + 29 = 96 + 36 * (i + 1) := by have : nfl 1 = 7 := rfl; omega
    rw [e1, e2, e3]
    exact lp_X9 hC hE hd3 hcap hR m (i + 1) (by omega)
theorem lp_X6 {l : Launch} {C : JC} {E : JE} {d : Nat} (hC : CAd C) (hE : Gok l C E RX6 cX6_init 41 d) (hd3 : 3 ≤ d) (hcap : Gcap E 49 592) (hR : Gret C E cX6_init 41 50 (jcell C S0)) : ∀ (m i : Nat), i + m = 16 → G C E (cv2 C 41 (om C 5 41 1) 42 (ra C C.2.2.2.2.1 42 16 i)) 41 (2 + 3 * i) (1 + 3 * i) (16 + 36 * i) 15 [some (.ref (C.2.1 41)), some (.int (nI i))] []
  | 0, i, hm => by
    have hi : i = 16 := by omega
    subst hi
    refine g_iload hE dX6_init_15 rfl ?_
    refine g_aload hE dX6_init_16 rfl ?_
    refine g_getr hE (j := 0) (fs := omL C 5 41 1) (x := C.2.1 42) fX6_11 dX6_init_17 (by omega) (by rw [Nat.add_zero]; exact cv2_b) rfl ?_
    refine g_alen hE (j := 1) (N := 16) (cA := C.2.2.2.2.1) (ty := .object RX1) (fn := raF C 42 16) dX6_init_20 (by simp [jty]) (by omega) (cv2_c (by decide)) ?_
    refine g_icmpge hE 43 dX6_init_21 (by decide) (fun _ => ?_) (fun q => absurd (Int32.le_refl _) q)
    refine g_conv (j := 1) (jcell C S0 42) (by omega) ?_ ?_
    · rw [show 41 + 1 = 42 from rfl, cv2_c (by decide), jcell_3 C S0 (show jsh 42 = (3, 16) from rfl)]
      exact arr_conv (fun j hj => if_pos hj)
    refine g_ret hE hR dX6_init_43 (hcap.le (by omega) (by omega)) (fun j hj => ?_)
    rw [show 41 + 1 = 42 from rfl, cv2_sc (by decide)]
    by_cases q : j = 0
    · subst q
      rw [Nat.add_zero, cv2_b]
      exact om_all rfl (fun f h1 h2 => by
        have h2 : f < 3 := h2
        rcases (show f = 1 ∨ f = 2 by omega) with rfl | rfl <;> exact ⟨rfl, rfl⟩)
    · by_cases q2 : j = 1
      · subst q2
        exact cv2_c (by decide)
      · exact cv2_n (by omega) (by omega)
  | m + 1, i, hm => by
    refine g_iload hE dX6_init_15 rfl ?_
    refine g_aload hE dX6_init_16 rfl ?_
    refine g_getr hE (j := 0) (fs := omL C 5 41 1) (x := C.2.1 42) fX6_11 dX6_init_17 (by omega) (by rw [Nat.add_zero]; exact cv2_b) rfl ?_
    refine g_alen hE (j := 1) (N := 16) (cA := C.2.2.2.2.1) (ty := .object RX1) (fn := raF C 42 i) dX6_init_20 (by simp [jty]) (by omega) (cv2_c (by decide)) ?_
    refine g_icmpge hE 43 dX6_init_21 (by decide) (fun q => absurd q (nI_ge (by omega) (by omega))) (fun _ => ?_)
    refine g_aload hE dX6_init_24 rfl ?_
    refine g_getr hE (j := 0) (fs := omL C 5 41 1) (x := C.2.1 42) fX6_11 dX6_init_25 (by omega) (by rw [Nat.add_zero]; exact cv2_b) rfl ?_
    refine g_iload hE dX6_init_28 rfl ?_
    have ea : 41 + (2 + 3 * i) = 43 + 3 * i := by omega
    obtain ⟨hsh, hs1, hs2⟩ := ring_sh i (by omega)
    have hM : GCon l C yX1_init cX1_init 1 1 2 29 (41 + (2 + 3 * i)) 3 (.inr (1, dfl 1)) (jcell C S0) := by rw [ea]; exact i_X1 l C hC _ hsh hs1 hs2 ⟨by omega, by omega⟩
    refine g_makeV hE (kc := 3) nX6_9 hM (Or.inl vX6_17) (fun j hj => cv2_n (by omega) (by omega)) dX6_init_29 dX6_init_32 dX6_init_33 (by omega) (Nat.le_of_ble_eq_true rfl) (hcap.le (by omega) (by have : nfl 1 = 7 := rfl; omega)) ?_
    refine g_aast hE (j := 1) (i := i) (N := 16) (w := 2 + 3 * i) (ci := 1) (cA := C.2.2.2.2.1) (fs := (List.range (nfl 1)).map (jfv C S0 1 (41 + (2 + 3 * i)))) (fn := raF C 42 i) dX6_init_36 (by decide) (List.mem_of_getElem? (i := 2) rfl) (by omega) (cv2_c (by decide)) (by omega) (by rw [cv2_n (by omega) (by omega)]; exact jcell_o C S0 (by rw [ea]; exact hsh)) (by omega) (by decide) ?_
    refine g_iinc hE (nI (i + 1)) dX6_init_37 rfl (nI_inc i) rfl ?_
    refine g_goto hE 15 dX6_init_40 (by decide) ?_
    rw [raF_s C 42 i _ (by rw [ea]; rfl), show 41 + 1 = 42 from rfl, cv2_sc (by decide)]
    have e1 : 2 + 3 * i + 3 = 2 + 3 * (i + 1) := by omega
    have e2 : 1 + 3 * i + 1 + 2 = 1 + 3 * (i + 1) := by omega
    have e3 : 16 + 36 * i + nfl 1 + 29 = 16 + 36 * (i + 1) := by have : nfl 1 = 7 := rfl; omega
    rw [e1, e2, e3]
    exact lp_X6 hC hE hd3 hcap hR m (i + 1) (by omega)
theorem lp_X10 {l : Launch} {C : JC} {E : JE} {d : Nat} (hC : CAd C) (hE : Gok l C E RX10 cX10_init 0 d) (hd3 : 3 ≤ d) (hcap : Gcap E 113 1502) (hR : Gret C E cX10_init 0 114 (jcell C S0)) : ∀ (m i : Nat), i + m = 2 → G C E (cv2 C 0 (om C 9 0 10) 95 (ra C C.2.2.2.2.2 95 2 i)) 0 (106 + 4 * i) (105 + 4 * i) (1424 + 39 * i) 113 [some (.ref (C.2.1 0)), some (.int (nI i))] []
  | 0, i, hm => by
    have hi : i = 2 := by omega
    subst hi
    refine g_iload hE dX10_init_113 rfl ?_
    refine g_aload hE dX10_init_114 rfl ?_
    refine g_getr hE (j := 0) (fs := omL C 9 0 10) (x := C.2.1 95) fX10_60 dX10_init_115 (by omega) (by rw [Nat.add_zero]; exact cv2_b) rfl ?_
    refine g_alen hE (j := 95) (N := 2) (cA := C.2.2.2.2.2) (ty := .object RX4) (fn := raF C 95 2) dX10_init_118 (by simp [jty]) (by omega) (cv2_c (by decide)) ?_
    refine g_icmpge hE 141 dX10_init_119 (by decide) (fun _ => ?_) (fun q => absurd (Int32.le_refl _) q)
    refine g_conv (j := 95) (jcell C S0 95) (by omega) ?_ ?_
    · rw [show 0 + 95 = 95 from rfl, cv2_c (by decide), jcell_4 C S0 (show jsh 95 = (4, 2) from rfl)]
      exact arr_conv (fun j hj => if_pos hj)
    refine g_ret hE hR dX10_init_141 (hcap.le (by omega) (by omega)) (fun j hj => ?_)
    rw [show 0 + 95 = 95 from rfl, cv2_sc (by decide)]
    by_cases q : j = 0
    · subst q
      rw [Nat.add_zero, cv2_b]
      exact om_all rfl (fun f h1 h2 => by
        have h2 : f < 10 := h2
        omega)
    · by_cases q2 : j = 95
      · subst q2
        exact cv2_c (by decide)
      · exact cv2_n (by omega) (by omega)
  | m + 1, i, hm => by
    refine g_iload hE dX10_init_113 rfl ?_
    refine g_aload hE dX10_init_114 rfl ?_
    refine g_getr hE (j := 0) (fs := omL C 9 0 10) (x := C.2.1 95) fX10_60 dX10_init_115 (by omega) (by rw [Nat.add_zero]; exact cv2_b) rfl ?_
    refine g_alen hE (j := 95) (N := 2) (cA := C.2.2.2.2.2) (ty := .object RX4) (fn := raF C 95 i) dX10_init_118 (by simp [jty]) (by omega) (cv2_c (by decide)) ?_
    refine g_icmpge hE 141 dX10_init_119 (by decide) (fun q => absurd q (nI_ge (by omega) (by omega))) (fun _ => ?_)
    refine g_aload hE dX10_init_122 rfl ?_
    refine g_getr hE (j := 0) (fs := omL C 9 0 10) (x := C.2.1 95) fX10_60 dX10_init_123 (by omega) (by rw [Nat.add_zero]; exact cv2_b) rfl ?_
    refine g_iload hE dX10_init_126 rfl ?_
    have ea : 0 + (106 + 4 * i) = 106 + 4 * i := by omega
    obtain ⟨hsh, hs0, hs1, hs2⟩ := img_sh i (by omega)
    have hM : GCon l C yX4_init cX4_init 1 2 3 36 (0 + (106 + 4 * i)) 4 (.inr (4, dfl 4)) (jcell C S0) := by rw [ea]; exact i_X4 l C hC _ hsh hs0 hs1 hs2 ⟨by omega, by omega⟩
    refine g_makeV hE (kc := 4) nX10_58 hM (Or.inl vX10_74) (fun j hj => cv2_n (by omega) (by omega)) dX10_init_127 dX10_init_130 dX10_init_131 (by omega) (Nat.le_of_ble_eq_true rfl) (hcap.le (by omega) (by have : nfl 4 = 3 := rfl; omega)) ?_
    refine g_aast hE (j := 95) (i := i) (N := 2) (w := 106 + 4 * i) (ci := 4) (cA := C.2.2.2.2.2) (fs := (List.range (nfl 4)).map (jfv C S0 4 (0 + (106 + 4 * i)))) (fn := raF C 95 i) dX10_init_134 (by decide) (List.mem_of_getElem? (i := 3) rfl) (by omega) (cv2_c (by decide)) (by omega) (by rw [cv2_n (by omega) (by omega)]; exact jcell_o C S0 (by rw [ea]; exact hsh)) (by omega) (by decide) ?_
    refine g_iinc hE (nI (i + 1)) dX10_init_135 rfl (nI_inc i) rfl ?_
    refine g_goto hE 113 dX10_init_138 (by decide) ?_
    rw [raF_s C 95 i _ (by rw [ea]; rfl), show 0 + 95 = 95 from rfl, cv2_sc (by decide)]
    have e1 : 106 + 4 * i + 4 = 106 + 4 * (i + 1) := by omega
    have e2 : 105 + 4 * i + 1 + 3 = 105 + 4 * (i + 1) := by omega
    have e3 : 1424 + 39 * i + nfl 4 + 36 = 1424 + 39 * (i + 1) := by have : nfl 4 = 3 := rfl; omega
    rw [e1, e2, e3]
    exact lp_X10 hC hE hd3 hcap hR m (i + 1) (by omega)
theorem i_X9 (l : Launch) (C : JC) (hC : CAd C) : GCon l C yX9_init cX9_init 2 3 31 384 9 32 (.inr (8, dfl 8)) (jcell C S0) := by
  refine gcon_of RX9 1 (by decide) rfl rfl hC (by decide) (fun E hE hcap hR => ?_)
  refine g_V (cv C 9 (om C 8 9 0)) (fun j hj => ?_) ?_
  · rw [show j = 0 by omega, Nat.add_zero, cv_b, om_0]
  refine g_aload hE dX9_init_0 rfl ?_
  refine g_objInit hE oX9_3 wOI wOC dX9_init_1 (by decide) ?_
  refine g_aload hE dX9_init_4 rfl ?_
  refine g_makeM hE (k := 1) (kc := 3) nX9_9 (i_X3 l C hC 10 rfl rfl rfl (by decide)) (Or.inl vX9_11) (by decide) dX9_init_5 dX9_init_8 dX9_init_9 (by decide) (Nat.le_of_ble_eq_true rfl) (hcap.le (by decide) (by decide)) ?_
  refine g_putM hE (k := 4) (t := 0) (w := 10) rX9_12 dX9_init_12 (by decide) (by decide) rfl (by decide +kernel) ?_
  refine g_aload hE dX9_init_15 rfl ?_
  refine g_makeM hE (k := 4) (kc := 3) nX9_18 (i_X1 l C hC 13 rfl rfl rfl (by decide)) (Or.inl vX9_20) (by decide) dX9_init_16 dX9_init_19 dX9_init_20 (by decide) (Nat.le_of_ble_eq_true rfl) (hcap.le (by decide) (by decide)) ?_
  refine g_putM hE (k := 7) (t := 1) (w := 13) rX9_21 dX9_init_23 (by decide) (by decide) rfl (by decide +kernel) ?_
  refine g_aload hE dX9_init_26 rfl ?_
  refine g_bipush hE (nI 8) dX9_init_27 (by decide) ?_
  refine g_newq hE (k := 7) (nm := RX1) (cA := C.2.2.2.2.1) (by simp [jty]) (Or.inl rfl) qX9_18 (N := 8) (by decide) dX9_init_29 (hcap.le (by decide) (by decide)) ?_
  rw [raF_0 C 16, cv_2 (show 9 + 7 ≠ 9 by decide)]
  refine g_putr hE (k := 8) (j := 0) (fs := omL C 8 9 2) rX9_25 dX9_init_32 (by decide) (by rw [Nat.add_zero]; exact cv2_b) (om_len C 8 9 2) ?_
  rw [om_set (C := C) (ci := 8) (i := 9) (t := 2) (f := 2) (v := .ref (C.2.1 (9 + 7))) (by decide) (by decide) rfl (fun g h1 h2 => absurd h2 (by omega)), Nat.add_zero, cv2_sb]
  refine g_iconst hE (nI 0) dX9_init_35 (by decide) ?_
  refine g_istore hE dX9_init_36 (Nat.le_of_ble_eq_true rfl) rfl ?_
  exact lp_X9 hC hE (by decide) hcap hR 8 0 rfl
theorem i_X6 (l : Launch) (C : JC) (hC : CAd C) : GCon l C yX6_init cX6_init 2 3 49 592 41 50 (.inr (5, dfl 5)) (jcell C S0) := by
  refine gcon_of RX6 1 (by decide) rfl rfl hC (by decide) (fun E hE hcap hR => ?_)
  refine g_V (cv C 41 (om C 5 41 0)) (fun j hj => ?_) ?_
  · rw [show j = 0 by omega, Nat.add_zero, cv_b, om_0]
  refine g_aload hE dX6_init_0 rfl ?_
  refine g_objInit hE oX6_3 wOI wOC dX6_init_1 (by decide) ?_
  refine g_aload hE dX6_init_4 rfl ?_
  refine g_bipush hE (nI 16) dX6_init_5 (by decide) ?_
  refine g_newq hE (k := 1) (nm := RX1) (cA := C.2.2.2.2.1) (by simp [jty]) (Or.inl rfl) qX6_9 (N := 16) (by decide) dX6_init_7 (hcap.le (by decide) (by decide)) ?_
  rw [raF_0 C 42, cv_2 (show 41 + 1 ≠ 41 by decide)]
  refine g_putr hE (k := 2) (j := 0) (fs := omL C 5 41 0) rX6_11 dX6_init_10 (by decide) (by rw [Nat.add_zero]; exact cv2_b) (om_len C 5 41 0) ?_
  rw [om_set (C := C) (ci := 5) (i := 41) (t := 0) (f := 0) (v := .ref (C.2.1 (41 + 1))) (by decide) (by decide) rfl (fun g h1 h2 => absurd h2 (by omega)), Nat.add_zero, cv2_sb]
  refine g_iconst hE (nI 0) dX6_init_13 (by decide) ?_
  refine g_istore hE dX6_init_14 (Nat.le_of_ble_eq_true rfl) rfl ?_
  exact lp_X6 hC hE (by decide) hcap hR 16 0 rfl
theorem i_X10 (l : Launch) (C : JC) (hC : CAd C) : GCon l C yX10_init cX10_init 2 4 113 1502 0 114 (.inr (9, dfl 9)) (jcell C S0) := by
  refine gcon_of RX10 1 (by decide) rfl rfl hC (by decide) (fun E hE hcap hR => ?_)
  refine g_V (cv C 0 (om C 9 0 0)) (fun j hj => ?_) ?_
  · rw [show j = 0 by omega, Nat.add_zero, cv_b, om_0]
  refine g_aload hE dX10_init_0 rfl ?_
  refine g_objInit hE oX10_1 wOI wOC dX10_init_1 (by decide) ?_
  refine g_aload hE dX10_init_4 rfl ?_
  refine g_makeM hE (k := 1) (kc := 2) nX10_7 (i_X8 l C hC) (Or.inl vX10_9) (by decide) dX10_init_5 dX10_init_8 dX10_init_9 (by decide) (Nat.le_of_ble_eq_true rfl) (hcap.le (by decide) (by decide)) ?_
  refine g_putM hE (k := 3) (t := 0) (w := 1) rX10_10 dX10_init_12 (by decide) (by decide) rfl (by decide +kernel) ?_
  refine g_aload hE dX10_init_15 rfl ?_
  refine g_makeM hE (k := 3) (kc := 3) nX10_16 (i_X1 l C hC 3 rfl rfl rfl (by decide)) (Or.inl vX10_18) (by decide) dX10_init_16 dX10_init_19 dX10_init_20 (by decide) (Nat.le_of_ble_eq_true rfl) (hcap.le (by decide) (by decide)) ?_
  refine g_putM hE (k := 6) (t := 1) (w := 3) rX10_19 dX10_init_23 (by decide) (by decide) rfl (by decide +kernel) ?_
  refine g_aload hE dX10_init_26 rfl ?_
  refine g_makeM hE (k := 6) (kc := 3) nX10_23 (i_X3 l C hC 6 rfl rfl rfl (by decide)) (Or.inl vX10_25) (by decide) dX10_init_27 dX10_init_30 dX10_init_31 (by decide) (Nat.le_of_ble_eq_true rfl) (hcap.le (by decide) (by decide)) ?_
  refine g_putM hE (k := 9) (t := 2) (w := 6) rX10_26 dX10_init_34 (by decide) (by decide) rfl (by decide +kernel) ?_
  refine g_aload hE dX10_init_37 rfl ?_
  refine g_makeM hE (k := 9) (kc := 32) nX10_30 (i_X9 l C hC) (Or.inr vX10_32) (by decide) dX10_init_38 dX10_init_41 dX10_init_42 (by decide) (Nat.le_of_ble_eq_true rfl) (hcap.le (by decide) (by decide)) ?_
  refine g_putM hE (k := 41) (t := 3) (w := 9) rX10_33 dX10_init_45 (by decide) (by decide) rfl (by decide +kernel) ?_
  refine g_aload hE dX10_init_48 rfl ?_
  refine g_makeM hE (k := 41) (kc := 50) nX10_37 (i_X6 l C hC) (Or.inr vX10_39) (by decide) dX10_init_49 dX10_init_52 dX10_init_53 (by decide) (Nat.le_of_ble_eq_true rfl) (hcap.le (by decide) (by decide)) ?_
  refine g_putM hE (k := 91) (t := 4) (w := 41) rX10_40 dX10_init_56 (by decide) (by decide) rfl (by decide +kernel) ?_
  refine g_aload hE dX10_init_59 rfl ?_
  refine g_makeM hE (k := 91) (kc := 3) nX10_44 (i_X0 l C hC 91 rfl rfl rfl (by decide)) (Or.inl vX10_46) (by decide) dX10_init_60 dX10_init_63 dX10_init_64 (by decide) (Nat.le_of_ble_eq_true rfl) (hcap.le (by decide) (by decide)) ?_
  refine g_putM hE (k := 94) (t := 5) (w := 91) rX10_47 dX10_init_67 (by decide) (by decide) rfl (by decide +kernel) ?_
  refine g_aload hE dX10_init_70 rfl ?_
  refine g_makeM hE (k := 94) (kc := 1) nX10_51 (i_X2 l C hC 94 rfl (by decide)) (Or.inl vX10_53) (by decide) dX10_init_71 dX10_init_74 dX10_init_75 (by decide) (Nat.le_of_ble_eq_true rfl) (hcap.le (by decide) (by decide)) ?_
  refine g_putM hE (k := 95) (t := 6) (w := 94) rX10_54 dX10_init_78 (by decide) (by decide) rfl (by decide +kernel) ?_
  refine g_aload hE dX10_init_81 rfl ?_
  refine g_iconst hE (nI 2) dX10_init_82 (by decide) ?_
  refine g_newq hE (k := 95) (nm := RX4) (cA := C.2.2.2.2.2) (by simp [jty]) (Or.inr rfl) qX10_58 (N := 2) (by decide) dX10_init_83 (hcap.le (by decide) (by decide)) ?_
  rw [raF_0 C 95, cv_2 (show 0 + 95 ≠ 0 by decide)]
  refine g_putr hE (k := 96) (j := 0) (fs := omL C 9 0 7) rX10_60 dX10_init_86 (by decide) (by rw [Nat.add_zero]; exact cv2_b) (om_len C 9 0 7) ?_
  rw [om_set (C := C) (ci := 9) (i := 0) (t := 7) (f := 7) (v := .ref (C.2.1 (0 + 95))) (by decide) (by decide) rfl (fun g h1 h2 => absurd h2 (by omega)), Nat.add_zero, cv2_sb]
  refine g_aload hE dX10_init_89 rfl ?_
  refine g_makeV hE (k := 96) (kc := 5) nX10_64 (i_X7 l C hC 96 rfl rfl rfl rfl rfl (by decide)) (Or.inl vX10_66) (fun j hj => cv2_n (by omega) (by omega)) dX10_init_90 dX10_init_93 dX10_init_94 (by decide) (Nat.le_of_ble_eq_true rfl) (hcap.le (by decide) (by decide)) ?_
  refine g_putr hE (k := 101) (j := 0) (fs := omL C 9 0 8) rX10_67 dX10_init_97 (by decide) (by rw [Nat.add_zero]; exact cv2_b) (om_len C 9 0 8) ?_
  rw [om_set (C := C) (ci := 9) (i := 0) (t := 8) (f := 8) (v := .ref (C.2.1 (0 + 96))) (by decide) (by decide) rfl (fun g h1 h2 => absurd h2 (by omega)), Nat.add_zero, cv2_sb]
  refine g_aload hE dX10_init_100 rfl ?_
  refine g_makeV hE (k := 101) (kc := 5) nX10_64 (i_X7 l C hC 101 rfl rfl rfl rfl rfl (by decide)) (Or.inl vX10_66) (fun j hj => cv2_n (by omega) (by omega)) dX10_init_101 dX10_init_104 dX10_init_105 (by decide) (Nat.le_of_ble_eq_true rfl) (hcap.le (by decide) (by decide)) ?_
  refine g_putr hE (k := 106) (j := 0) (fs := omL C 9 0 9) rX10_71 dX10_init_108 (by decide) (by rw [Nat.add_zero]; exact cv2_b) (om_len C 9 0 9) ?_
  rw [om_set (C := C) (ci := 9) (i := 0) (t := 9) (f := 9) (v := .ref (C.2.1 (0 + 101))) (by decide) (by decide) rfl (fun g h1 h2 => absurd h2 (by omega)), Nat.add_zero, cv2_sb]
  refine g_iconst hE (nI 0) dX10_init_111 (by decide) ?_
  refine g_istore hE dX10_init_112 (Nat.le_of_ble_eq_true rfl) rfl ?_
  exact lp_X10 hC hE (by decide) hcap hR 2 0 rfl
