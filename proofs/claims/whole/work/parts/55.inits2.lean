/-! an object whose fields are filled one after the other; all other cells are as they stay -/
def omF (C : JC) (ci i t : Nat) : Nat → Value := fun f => if f < t then jfv C S0 ci i f else (if isR ci f = true then .null else .int (nI 0))
def omL (C : JC) (ci i t : Nat) : List Value := (List.range (nfl ci)).map (omF C ci i t)
def om (C : JC) (ci i t : Nat) : va_E := .inr (ci, omL C ci i t)
def cv (C : JC) (b : Nat) (x : va_E) : Nat → va_E := fun i => if i = b then x else jcell C S0 i
theorem cv_b {C : JC} {b : Nat} {x : va_E} : cv C b x b = x := if_pos rfl
theorem cv_n {C : JC} {b i : Nat} {x : va_E} (h : i ≠ b) : cv C b x i = jcell C S0 i := if_neg h
theorem cv_set {C : JC} {b : Nat} {x y : va_E} : vset (cv C b x) b y = cv C b y := by
  funext i
  unfold vset cv
  split <;> rfl
theorem cv_push {C : JC} {b n : Nat} {x y : va_E} (hn : n ≠ b) (hy : y = jcell C S0 n) : vset (cv C b x) n y = cv C b x := by
  funext i
  unfold vset cv
  by_cases h : i = n
  · rw [if_pos h, if_neg (by omega), hy, h]
  · rw [if_neg h]
theorem om_0 (C : JC) (ci i : Nat) : om C ci i 0 = .inr (ci, dfl ci) := by
  unfold om omL dfl
  congr 2
theorem om_len (C : JC) (ci i t : Nat) : (omL C ci i t).length = nfl ci := by simp [omL]
theorem om_all {C : JC} {ci i t : Nat} (h : jsh i = (0, ci)) (ht : ∀ f, t ≤ f → f < nfl ci → isR ci f = false ∧ S0 i f = nI 0) : om C ci i t = jcell C S0 i := by
  rw [jcell_o C S0 h]
  unfold om omL
  congr 2
  apply List.map_congr_left
  intro f hf
  have hf := List.mem_range.mp hf
  unfold omF
  by_cases q : f < t
  · rw [if_pos q]
  · obtain ⟨a, b⟩ := ht f (by omega) hf
    rw [if_neg q, if_neg (by rw [a]; decide)]
    unfold jfv
    rw [if_neg (by rw [a]; decide), b]
theorem om_set {C : JC} {ci i t f : Nat} {v : Value} (hf : f < nfl ci) (htf : t ≤ f) (hv : v = jfv C S0 ci i f) (hg : ∀ g, t ≤ g → g < f → isR ci g = false ∧ S0 i g = nI 0) : (omL C ci i t).set f v = omL C ci i (f + 1) := by
  apply List.ext_getElem?
  intro g
  by_cases e : g = f
  · subst e
    rw [List.getElem?_set_self (by rw [om_len]; exact hf)]
    unfold omL
    simp only [List.getElem?_map, List.getElem?_range hf, Option.map_some]
    unfold omF
    rw [if_pos (by omega), hv]
  · rw [List.getElem?_set_ne (fun q => e q.symm)]
    rcases Nat.lt_or_ge g (nfl ci) with q | q
    · unfold omL
      simp only [List.getElem?_map, List.getElem?_range q, Option.map_some]
      congr 1
      unfold omF
      by_cases h1 : g < t
      · rw [if_pos h1, if_pos (by omega)]
      · by_cases h2 : g < f
        · obtain ⟨a, b⟩ := hg g (by omega) h2
          rw [if_neg h1, if_pos (show g < f + 1 by omega), if_neg (show ¬ isR ci g = true by rw [a]; decide)]
          unfold jfv
          rw [if_neg (by rw [a]; decide), b]
        · rw [if_neg h1, if_neg (show ¬ g < f + 1 by omega)]
    · rw [List.getElem?_eq_none (by rw [om_len]; exact q), List.getElem?_eq_none (by rw [om_len]; exact q)]
section MRows
variable {l : Launch} {C : JC} {E : JE} {own : String} {cc : ByteArray} {d b k cl sl : Nat} {x : va_E} {pc : Nat} {lv : List (Option Value)} {st : List Value}
theorem g_newM (hE : Gok l C E own cc b d) {N : Nat} (hs : jsh (b + k) = (1, N)) (hk : 0 < k) (hne : b + k ≠ 0 ∧ b + k ≠ 1 ∧ b + k ≠ 114) (hN : N ≤ 1000) (hd : decode cc pc = .ok (.newarray .int, 2)) (hcap : Gcap E (cl + 1) (sl + N)) (kk : G C E (cv C b x) b (k + 1) (cl + 1) (sl + N) (pc + 2) lv (.ref (C.2.1 (b + k)) :: st)) : G C E (cv C b x) b k cl sl pc lv (.int (nI N) :: st) := by
  refine g_newa hE (at' := .int) (ty := .int) (cA := C.2.2.1) rfl (by simp [jty]) (Or.inl rfl) wInt hN hd hcap ?_
  rw [cv_push (by omega) (fin_a hs hne.1 hne.2.1 hne.2.2)]
  exact kk
theorem g_putM (hE : Gok l C E own cc b d) {idx ci f t w : Nat} {fin : Bool} (hf : FR own idx ci f fin) (hd : decode cc pc = .ok (.putfield idx, 3)) (hk : 0 < k) (htf : t ≤ f) (hw : rf S0 b f = w) (hg : ∀ g, g < nfl ci → t ≤ g → g < f → isR ci g = false ∧ S0 b g = nI 0) (kk : G C E (cv C b (om C ci b (f + 1))) b k cl sl (pc + 3) lv st) : G C E (cv C b (om C ci b t)) b k cl sl pc lv (.ref (C.2.1 w) :: .ref (C.2.1 b) :: st) := by
  refine g_putr hE (j := 0) (fs := omL C ci b t) hf hd hk (by rw [Nat.add_zero]; exact cv_b) (om_len C ci b t) ?_
  have h2 := hf.1.2.1
  have e : (omL C ci b t).set f (.ref (C.2.1 w)) = omL C ci b (f + 1) := om_set h2 htf (by unfold jfv; rw [if_pos hf.1.2.2.1, hw]) (fun g h3 h4 => hg g (by omega) h3 h4)
  rw [e, Nat.add_zero, cv_set]
  exact kk
theorem g_putMi (hE : Gok l C E own cc b d) {idx ci f t : Nat} {v : Int32} (hf : FP own idx ci f .int) (hd : decode cc pc = .ok (.putfield idx, 3)) (hk : 0 < k) (htf : t ≤ f) (hw : S0 b f = v) (hg : ∀ g, g < nfl ci → t ≤ g → g < f → isR ci g = false ∧ S0 b g = nI 0) (kk : G C E (cv C b (om C ci b (f + 1))) b k cl sl (pc + 3) lv st) : G C E (cv C b (om C ci b t)) b k cl sl pc lv (.int v :: .ref (C.2.1 b) :: st) := by
  refine g_puti hE (j := 0) (fs := omL C ci b t) hf hd hk (by rw [Nat.add_zero]; exact cv_b) (om_len C ci b t) (vp_nar_int v) rfl ?_
  have h2 := hf.1.2.1
  have e : (omL C ci b t).set f (.int v) = omL C ci b (f + 1) := om_set h2 htf (by unfold jfv; rw [if_neg (by rw [hf.1.2.2.1]; decide), hw]) (fun g h3 h4 => hg g (by omega) h3 h4)
  rw [e, Nat.add_zero, cv_set]
  exact kk
/-- an object is made, and its constructor run -/
theorem g_makeM (hE : Gok l C E own cc b d) {y : MethodName} {bytes : ByteArray} {nL' d' mc ms i1 i2 kc ci : Nat} (hn : GN own i1 ci) (hM : GCon l C y bytes nL' d' mc ms (b + k) kc (.inr (ci, dfl ci)) (jcell C S0)) (hc : CIN own i2 y bytes nL' ∨ CIL own i2 y bytes nL') (hk : 0 < k) (hd1 : decode cc pc = .ok (.new i1, 3)) (hd2 : decode cc (pc + 3) = .ok (.dup, 1)) (hd3 : decode cc (pc + 4) = .ok (.invokespecial i2, 3)) (hd' : d' + 1 ≤ d) (hr : (st.map fun v => v.category).sum ≤ 7) (hcap : Gcap E (cl + 1 + mc) (sl + nfl ci + ms)) (kk : G C E (cv C b x) b (k + kc) (cl + 1 + mc) (sl + nfl ci + ms) (pc + 7) lv (.ref (C.2.1 (b + k)) :: st)) : G C E (cv C b x) b k cl sl pc lv st := by
  refine g_new hE hn hd1 (hcap.le (by omega) (by omega)) ?_
  refine g_dup hE hd2 rfl ?_
  have hv : vset (cv C b x) (b + k) (.inr (ci, dfl ci)) (b + k) = .inr (ci, dfl ci) := vset_s
  have fin : G C E (fun i => if i < b + k then vset (cv C b x) (b + k) (.inr (ci, dfl ci)) i else jcell C S0 i) b (k + kc) (cl + 1 + mc) (sl + nfl ci + ms) (pc + 3 + 1 + 3) lv (.ref (C.2.1 (b + k)) :: st) := by
    refine g_V (cv C b x) (fun j hj => ?_) kk
    by_cases q : j < k
    · have e1 : (if b + j < b + k then vset (cv C b x) (b + k) (.inr (ci, dfl ci)) (b + j) else jcell C S0 (b + j)) = vset (cv C b x) (b + k) (.inr (ci, dfl ci)) (b + j) := if_pos (by omega)
      rw [e1, vset_n (by omega)]
    · have e1 : (if b + j < b + k then vset (cv C b x) (b + k) (.inr (ci, dfl ci)) (b + j) else jcell C S0 (b + j)) = jcell C S0 (b + j) := if_neg (by omega)
      rw [e1, cv_n (by omega)]
  have hr2 : ((Value.ref (C.2.1 (b + k)) :: st).map fun v => v.category).sum ≤ 8 := by
    rw [List.map_cons, List.sum_cons]
    show 1 + _ ≤ 8
    omega
  rcases hc with hc | hc
  · exact g_call hE hc hM hd3 hd' hv hr2 hcap fin
  · exact g_callL hE hc hM hd3 hd' hv hr2 hcap fin
end MRows
theorem i_X11 (l : Launch) (C : JC) (hC : CAd C) : GCon l C yX11_init cX11_init 1 1 19 1071 114 20 (.inr (10, dfl 10)) (jcell C S0) := by
  refine gcon_of RX11 0 (by decide) rfl rfl hC (by decide) (fun E hE hcap hR => ?_)
  refine g_V (cv C 114 (om C 10 114 0)) (fun j hj => ?_) ?_
  · rw [show j = 0 by omega, Nat.add_zero, cv_b, om_0]
  refine g_aload hE dX11_init_0 rfl ?_
  refine g_objInit hE oX11_1 wOI wOC dX11_init_1 (by decide) ?_
  refine g_aload hE dX11_init_4 rfl ?_
  refine g_iconst hE (nI 4) dX11_init_5 (by decide) ?_
  refine g_newM hE (k := 1) (N := 4) rfl (by decide) (by decide) (by decide) dX11_init_6 (hcap.le (by decide) (by decide)) ?_
  refine g_putM hE (k := 2) (t := 0) (w := 115) rX11_7 dX11_init_8 (by decide) (by decide) (by decide +kernel) (by decide +kernel) ?_
  refine g_aload hE dX11_init_11 rfl ?_
  refine g_bipush hE (nI 6) dX11_init_12 (by decide) ?_
  refine g_newM hE (k := 2) (N := 6) rfl (by decide) (by decide) (by decide) dX11_init_14 (hcap.le (by decide) (by decide)) ?_
  refine g_putM hE (k := 3) (t := 4) (w := 116) rX11_13 dX11_init_16 (by decide) (by decide) (by decide +kernel) (by decide +kernel) ?_
  refine g_aload hE dX11_init_19 rfl ?_
  refine g_bipush hE (nI 6) dX11_init_20 (by decide) ?_
  refine g_newM hE (k := 3) (N := 6) rfl (by decide) (by decide) (by decide) dX11_init_22 (hcap.le (by decide) (by decide)) ?_
  refine g_putM hE (k := 4) (t := 6) (w := 117) rX11_16 dX11_init_24 (by decide) (by decide) (by decide +kernel) (by decide +kernel) ?_
  refine g_aload hE dX11_init_27 rfl ?_
  refine g_iconst hE (nI 5) dX11_init_28 (by decide) ?_
  refine g_newM hE (k := 4) (N := 5) rfl (by decide) (by decide) (by decide) dX11_init_29 (hcap.le (by decide) (by decide)) ?_
  refine g_putM hE (k := 5) (t := 7) (w := 118) rX11_19 dX11_init_31 (by decide) (by decide) (by decide +kernel) (by decide +kernel) ?_
  refine g_aload hE dX11_init_34 rfl ?_
  refine g_bipush hE (nI 34) dX11_init_35 (by decide) ?_
  refine g_newM hE (k := 5) (N := 34) rfl (by decide) (by decide) (by decide) dX11_init_37 (hcap.le (by decide) (by decide)) ?_
  refine g_putM hE (k := 6) (t := 9) (w := 119) rX11_22 dX11_init_39 (by decide) (by decide) (by decide +kernel) (by decide +kernel) ?_
  refine g_aload hE dX11_init_42 rfl ?_
  refine g_sipush hE (nI 240) dX11_init_43 (by decide) ?_
  refine g_newM hE (k := 6) (N := 240) rfl (by decide) (by decide) (by decide) dX11_init_46 (hcap.le (by decide) (by decide)) ?_
  refine g_putM hE (k := 7) (t := 11) (w := 120) rX11_25 dX11_init_48 (by decide) (by decide) (by decide +kernel) (by decide +kernel) ?_
  refine g_aload hE dX11_init_51 rfl ?_
  refine g_iconst hE (-1) dX11_init_52 (by decide) ?_
  refine g_putMi hE (k := 7) (t := 13) pX11_28 dX11_init_53 (by decide) (by decide) (by decide +kernel) (by decide +kernel) ?_
  refine g_aload hE dX11_init_56 rfl ?_
  refine g_iconst hE (nI 4) dX11_init_57 (by decide) ?_
  refine g_newM hE (k := 7) (N := 4) rfl (by decide) (by decide) (by decide) dX11_init_58 (hcap.le (by decide) (by decide)) ?_
  refine g_putM hE (k := 8) (t := 15) (w := 121) rX11_32 dX11_init_60 (by decide) (by decide) (by decide +kernel) (by decide +kernel) ?_
  refine g_aload hE dX11_init_63 rfl ?_
  refine g_bipush hE (nI 6) dX11_init_64 (by decide) ?_
  refine g_newM hE (k := 8) (N := 6) rfl (by decide) (by decide) (by decide) dX11_init_66 (hcap.le (by decide) (by decide)) ?_
  refine g_putM hE (k := 9) (t := 22) (w := 122) rX11_35 dX11_init_68 (by decide) (by decide) (by decide +kernel) (by decide +kernel) ?_
  refine g_aload hE dX11_init_71 rfl ?_
  refine g_bipush hE (nI 6) dX11_init_72 (by decide) ?_
  refine g_newM hE (k := 9) (N := 6) rfl (by decide) (by decide) (by decide) dX11_init_74 (hcap.le (by decide) (by decide)) ?_
  refine g_putM hE (k := 10) (t := 24) (w := 123) rX11_38 dX11_init_76 (by decide) (by decide) (by decide +kernel) (by decide +kernel) ?_
  refine g_aload hE dX11_init_79 rfl ?_
  refine g_iconst hE (nI 5) dX11_init_80 (by decide) ?_
  refine g_newM hE (k := 10) (N := 5) rfl (by decide) (by decide) (by decide) dX11_init_81 (hcap.le (by decide) (by decide)) ?_
  refine g_putM hE (k := 11) (t := 25) (w := 124) rX11_41 dX11_init_83 (by decide) (by decide) (by decide +kernel) (by decide +kernel) ?_
  refine g_aload hE dX11_init_86 rfl ?_
  refine g_bipush hE (nI 25) dX11_init_87 (by decide) ?_
  refine g_newM hE (k := 11) (N := 25) rfl (by decide) (by decide) (by decide) dX11_init_89 (hcap.le (by decide) (by decide)) ?_
  refine g_putM hE (k := 12) (t := 27) (w := 125) rX11_44 dX11_init_91 (by decide) (by decide) (by decide +kernel) (by decide +kernel) ?_
  refine g_aload hE dX11_init_94 rfl ?_
  refine g_bipush hE (nI 25) dX11_init_95 (by decide) ?_
  refine g_newM hE (k := 12) (N := 25) rfl (by decide) (by decide) (by decide) dX11_init_97 (hcap.le (by decide) (by decide)) ?_
  refine g_putM hE (k := 13) (t := 30) (w := 126) rX11_47 dX11_init_99 (by decide) (by decide) (by decide +kernel) (by decide +kernel) ?_
  refine g_aload hE dX11_init_102 rfl ?_
  refine g_bipush hE (nI 25) dX11_init_103 (by decide) ?_
  refine g_newM hE (k := 13) (N := 25) rfl (by decide) (by decide) (by decide) dX11_init_105 (hcap.le (by decide) (by decide)) ?_
  refine g_putM hE (k := 14) (t := 31) (w := 127) rX11_50 dX11_init_107 (by decide) (by decide) (by decide +kernel) (by decide +kernel) ?_
  refine g_aload hE dX11_init_110 rfl ?_
  refine g_sipush hE (nI 544) dX11_init_111 (by decide) ?_
  refine g_newM hE (k := 14) (N := 544) rfl (by decide) (by decide) (by decide) dX11_init_114 (hcap.le (by decide) (by decide)) ?_
  refine g_putM hE (k := 15) (t := 32) (w := 128) rX11_53 dX11_init_116 (by decide) (by decide) (by decide +kernel) (by decide +kernel) ?_
  refine g_aload hE dX11_init_119 rfl ?_
  refine g_bipush hE (nI 34) dX11_init_120 (by decide) ?_
  refine g_newM hE (k := 15) (N := 34) rfl (by decide) (by decide) (by decide) dX11_init_122 (hcap.le (by decide) (by decide)) ?_
  refine g_putM hE (k := 16) (t := 34) (w := 129) rX11_56 dX11_init_124 (by decide) (by decide) (by decide +kernel) (by decide +kernel) ?_
  refine g_aload hE dX11_init_127 rfl ?_
  refine g_bipush hE (nI 15) dX11_init_128 (by decide) ?_
  refine g_newM hE (k := 16) (N := 15) rfl (by decide) (by decide) (by decide) dX11_init_130 (hcap.le (by decide) (by decide)) ?_
  refine g_putM hE (k := 17) (t := 35) (w := 130) rX11_59 dX11_init_132 (by decide) (by decide) (by decide +kernel) (by decide +kernel) ?_
  refine g_aload hE dX11_init_135 rfl ?_
  refine g_bipush hE (nI 15) dX11_init_136 (by decide) ?_
  refine g_newM hE (k := 17) (N := 15) rfl (by decide) (by decide) (by decide) dX11_init_138 (hcap.le (by decide) (by decide)) ?_
  refine g_putM hE (k := 18) (t := 37) (w := 131) rX11_62 dX11_init_140 (by decide) (by decide) (by decide +kernel) (by decide +kernel) ?_
  refine g_aload hE dX11_init_143 rfl ?_
  refine g_bipush hE (nI 70) dX11_init_144 (by decide) ?_
  refine g_newM hE (k := 18) (N := 70) rfl (by decide) (by decide) (by decide) dX11_init_146 (hcap.le (by decide) (by decide)) ?_
  refine g_putM hE (k := 19) (t := 38) (w := 132) rX11_65 dX11_init_148 (by decide) (by decide) (by decide +kernel) (by decide +kernel) ?_
  refine g_aload hE dX11_init_151 rfl ?_
  refine g_iconst hE (nI 2) dX11_init_152 (by decide) ?_
  refine g_newa hE (k := 19) (at' := .boolean) (ty := .boolean) (cA := C.2.2.2.1) rfl (by simp [jty]) (Or.inr rfl) wBool (N := 2) (by decide) dX11_init_153 (hcap.le (by decide) (by decide)) ?_
  rw [cv_push (by decide) (show (.inl (C.2.2.2.1, 2, .inl (fun _ => nI 0)) : va_E) = jcell C S0 (114 + 19) from by rw [jcell_2 C S0 (show jsh (114 + 19) = (2, 2) from rfl)]; rfl)]
  refine g_putM hE (k := 20) (t := 39) (w := 133) rX11_68 dX11_init_155 (by decide) (by decide) (by decide +kernel) (by decide +kernel) ?_
  refine g_aload hE dX11_init_158 rfl ?_
  refine g_iconst hE (nI 0) dX11_init_159 (by decide) ?_
  refine g_puti hE (k := 20) (j := 0) (fs := omL C 10 114 40) pX11_72 dX11_init_160 (by decide) (by rw [Nat.add_zero]; exact cv_b) (om_len C 10 114 40) (vp_nar_int _) rfl ?_
  have e160 : (omL C 10 114 40).set 0 (.int (nI 0)) = omL C 10 114 40 := by
    apply List.ext_getElem?
    intro g
    by_cases q : g = 0
    · subst q; rw [List.getElem?_set_self (by rw [om_len]; decide)]; unfold omL; simp only [List.getElem?_map, List.getElem?_range (show 0 < nfl 10 by decide), Option.map_some]; unfold omF; rw [if_pos (by decide)]; unfold jfv; rw [if_neg (by decide)]; rfl
    · rw [List.getElem?_set_ne (fun z => q z.symm)]
  rw [e160, Nat.add_zero, cv_set]
  refine g_ret hE hR dX11_init_163 (hcap.le (by decide) (by decide)) (fun j hj => ?_)
  by_cases q : j = 0
  · subst q
    rw [Nat.add_zero, cv_b]
    exact om_all rfl (fun f h1 h2 => by have : f < 40 := h2; omega)
  · exact cv_n (by omega)
theorem i_X4 (l : Launch) (C : JC) (hC : CAd C) (b : Nat) (h0 : jsh b = (0, 4)) (h1 : jsh (b + 1) = (0, 1)) (h2 : jsh (b + 1 + 1) = (1, 25)) (h3 : jsh (b + 1 + 2) = (1, 4)) (hb : 1 < b ∧ b + 3 < 114) : GCon l C yX4_init cX4_init 1 2 3 36 b 4 (.inr (4, dfl 4)) (jcell C S0) := by
  refine gcon_of RX4 0 (by decide) rfl rfl hC (by decide) (fun E hE hcap hR => ?_)
  refine g_V (cv C b (om C 4 b 0)) (fun j hj => ?_) ?_
  · rw [show j = 0 by omega, Nat.add_zero, cv_b, om_0]
  refine g_aload hE dX4_init_0 rfl ?_
  refine g_objInit hE oX4_1 wOI wOC dX4_init_1 (by decide) ?_
  refine g_aload hE dX4_init_4 rfl ?_
  refine g_makeM hE (k := 1) (kc := 3) nX4_7 (i_X1 l C hC (b + 1) h1 h2 h3 ⟨by omega, by omega⟩) (Or.inl vX4_9) (by decide) dX4_init_5 dX4_init_8 dX4_init_9 (by decide) (Nat.le_of_ble_eq_true rfl) (hcap.le (by decide) (by decide)) ?_
  refine g_putM hE (k := 4) (t := 0) (w := b + 1) rX4_10 dX4_init_12 (by decide) (by decide) (rf_o h0 (by decide)) (fun g _ _ h => absurd h (by omega)) ?_
  refine g_ret hE hR dX4_init_15 (hcap.le (by decide) (by decide)) (fun j hj => ?_)
  by_cases q : j = 0
  · subst q
    show cv C b (om C 4 b 1) b = jcell C S0 b
    rw [cv_b]
    refine om_all h0 (fun f h1 h2 => ?_)
    have h2' : f < 3 := h2
    rcases (show f = 1 ∨ f = 2 by omega) with rfl | rfl
    · exact ⟨rfl, S0_z (by omega) (by omega) (by omega) _⟩
    · exact ⟨rfl, S0_z (by omega) (by omega) (by omega) _⟩
  · exact cv_n (by omega)
