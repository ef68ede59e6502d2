abbrev outP (v a b : Int32) : Prop := v < a ∨ b < v
abbrev hasP (n x : Int32) : Prop := ¬ x < 0 ∧ ¬ n ≤ x
def gd1 {α : Type} (a : Prop) [Decidable a] (x y : α) : α := if a then x else y
theorem gd1_t {α : Type} {a : Prop} [Decidable a] {x y : α} (h : a) : x = gd1 a x y := (if_pos h).symm
theorem gd1_f {α : Type} {a : Prop} [Decidable a] {x y : α} (h : ¬ a) : y = gd1 a x y := (if_neg h).symm
theorem out_n {n : Int32} {a b : Nat} (hb : b < 2 ^ 31) (h : ¬ outP n (nI a) (nI b)) (ha : a < 2 ^ 31) : ∃ k, a ≤ k ∧ k ≤ b ∧ n = nI k := by
  have h1 : ¬ n < nI a := fun q => h (Or.inl q)
  have h2 : ¬ nI b < n := fun q => h (Or.inr q)
  obtain ⟨k, hk, rfl⟩ := nI_of (x := n) (fun q => h1 (by rw [Int32.lt_iff_toInt_lt] at q ⊢; rw [nI_toInt ha]; have : (0 : Int32).toInt = 0 := rfl; omega))
  refine ⟨k, ?_, ?_, rfl⟩
  · exact Nat.le_of_not_lt (fun q => h1 (nI_lt q ha))
  · exact Nat.le_of_not_lt (fun q => h2 (nI_lt q hk))
set_option maxHeartbeats 4000000 in
set_option maxRecDepth 100000 in
theorem c_X10_noWall (l : Launch) (C : JC) (hC : JInj C) (S : Sto) (pp : Nat) (hpl : (S 0 8).toNatClampNeg = pp) (h0 : jsh pp = (0, 6)) (h1 : jsh (pp + 1) = (1, 4)) (h2 : jsh (pp + 2) = (1, 6)) (h3 : jsh (pp + 3) = (1, 6)) (h4 : jsh (pp + 4) = (1, 5))  : Con l C yX10_noWall cX10_noWall 1 (some .boolean) 2 [.ref (C.2.1 0)] S (some (.int (if plCells S pp = 0 then nI 1 else nI 0))) (S) := by
  refine con_of RX10 0 [some (.ref (C.2.1 0))] (by decide) rfl hC (Nat.le_of_ble_eq_true rfl) rfl (Nat.le_of_ble_eq_true rfl) (fun E hE hR => ?_)
  refine j_aload0 hE dX10_noWall_0 ?_
  refine j_getr hE fX10_67 dX10_noWall_1 (j := pp) (by first | assumption | rfl) (by assumption) ?_
  refine j_V0i hE mX10_104 (c_X7_cells l C hC _ pp h0) dX10_noWall_4 (by first | assumption | rfl) (by decide) (Nat.le_of_ble_eq_true rfl) ?_
  refine j_ifne hE 14 dX10_noWall_7 (by decide) (fun c7 => ?_) (fun c7 => ?_)
  · skip
    refine j_iconst hE (nI 0) dX10_noWall_14 kiconst_0 ?_
    exact j_zret hE hR dX10_noWall_15 (by first | (rw [if_neg c7]; done) | (rw [if_pos c7]; done)) (rfl) nar_c
  · skip
    refine j_iconst hE (nI 1) dX10_noWall_10 kiconst_1 ?_
    refine j_goto hE 15 dX10_noWall_11 (by decide) ?_
    exact j_zret hE hR dX10_noWall_15 (by first | (rw [if_neg c7]; done) | (rw [if_pos c7]; done)) (rfl) nar_c

set_option maxHeartbeats 4000000 in
set_option maxRecDepth 100000 in
theorem c_X10_fault (l : Launch) (C : JC) (hC : JInj C) (S : Sto)  : Con l C yX10_fault cX10_fault 1 (some .int) 1 [.ref (C.2.1 0)] S (some (.int (S 1 3))) (S) := by
  refine con_of RX10 0 [some (.ref (C.2.1 0))] (by decide) rfl hC (Nat.le_of_ble_eq_true rfl) rfl (Nat.le_of_ble_eq_true rfl) (fun E hE hR => ?_)
  refine j_aload0 hE dX10_fault_0 ?_
  refine j_getr hE fX10_10 dX10_fault_1 (j := 1) (by first | assumption | rfl) (rfl) ?_
  refine j_geti hE fX10_108 dX10_fault_4 (by first | assumption | rfl) ?_
  exact j_iret hE hR dX10_fault_7 (rfl) (rfl)

def toldL (S : Sto) (pp nf nn hh : Nat) : List Int32 := [S pp 4, S pp 5, S pp 8, S pp 9, S pp 10, S 1 1, S 3 4, S 3 2, marksF (S 4) 25, S 3 3, S 3 5, S 3 6, wetF (S 4) 25, (whF S pp (marksF (S 4) 25) nf).1, mbF S pp (marksF (S 4) 25) nf, (gsF S pp (marksF (S 4) 25) nn).2, (ggF S pp (marksF (S 4) 25) nn).2, bdF S pp (marksF (S 4) 25) 4, (fuF S pp (marksF (S 4) 25) hh).1, S 91 2, S 41 2]
def toldF (S : Sto) (pp nf nn hh : Nat) (w : Int32) : Int32 := if w.toInt < 0 ∨ 20 < w.toInt then -1000000002 else (toldL S pp nf nn hh).getD w.toNatClampNeg 0
set_option maxHeartbeats 4000000 in
set_option maxRecDepth 100000 in
theorem c_X10_told (l : Launch) (C : JC) (hC : JInj C) (S : Sto) (pp : Nat) (hpl : (S 0 8).toNatClampNeg = pp) (h0 : jsh pp = (0, 6)) (h1 : jsh (pp + 1) = (1, 4)) (h2 : jsh (pp + 2) = (1, 6)) (h3 : jsh (pp + 3) = (1, 6)) (h4 : jsh (pp + 4) = (1, 5)) (nf : Nat) (hnf : S pp 10 = nI nf) (hfl : nf ≤ 25) (nn : Nat) (hnn : plCells S pp = nI nn) (hn25 : nn ≤ 25) (hh : Nat) (hhh : S pp 4 = nI hh) (hh25 : hh ≤ 25) (w : Int32) : Con l C yX10_told cX10_told 2 (some .int) 6 [.ref (C.2.1 0), .int w] S (some (.int (toldF S pp nf nn hh w))) (S) := by
  refine con_of RX10 0 [some (.ref (C.2.1 0)), some (.int w)] (by decide) rfl hC (Nat.le_of_ble_eq_true rfl) rfl (Nat.le_of_ble_eq_true rfl) (fun E hE hR => ?_)
  refine j_iload1 hE dX10_told_0 ?_
  rcases sw_21 (w) with cs | cs | cs | cs | cs | cs | cs | cs | cs | cs | cs | cs | cs | cs | cs | cs | cs | cs | cs | cs | cs | cs
  · refine j_tabC hE 100 0 dX10_told_1 cs (by decide) (by decide) rfl (by decide) ?_
    subst cs
    refine j_aload0 hE dX10_told_100 ?_
    refine j_getr hE fX10_67 dX10_told_101 (j := pp) (by first | assumption | rfl) (by assumption) ?_
    refine j_geti hE fX10_111 dX10_told_104 (by first | assumption | rfl) ?_
    exact j_iret hE hR dX10_told_107 (by rw [toldF, if_neg (by decide)]; rfl) (rfl)
  · refine j_tabC hE 108 1 dX10_told_1 cs (by decide) (by decide) rfl (by decide) ?_
    subst cs
    refine j_aload0 hE dX10_told_108 ?_
    refine j_getr hE fX10_67 dX10_told_109 (j := pp) (by first | assumption | rfl) (by assumption) ?_
    refine j_geti hE fX10_114 dX10_told_112 (by first | assumption | rfl) ?_
    exact j_iret hE hR dX10_told_115 (by rw [toldF, if_neg (by decide)]; rfl) (rfl)
  · refine j_tabC hE 116 2 dX10_told_1 cs (by decide) (by decide) rfl (by decide) ?_
    subst cs
    refine j_aload0 hE dX10_told_116 ?_
    refine j_getr hE fX10_67 dX10_told_117 (j := pp) (by first | assumption | rfl) (by assumption) ?_
    refine j_geti hE fX10_117 dX10_told_120 (by first | assumption | rfl) ?_
    exact j_iret hE hR dX10_told_123 (by rw [toldF, if_neg (by decide)]; rfl) (rfl)
  · refine j_tabC hE 124 3 dX10_told_1 cs (by decide) (by decide) rfl (by decide) ?_
    subst cs
    refine j_aload0 hE dX10_told_124 ?_
    refine j_getr hE fX10_67 dX10_told_125 (j := pp) (by first | assumption | rfl) (by assumption) ?_
    refine j_geti hE fX10_120 dX10_told_128 (by first | assumption | rfl) ?_
    exact j_iret hE hR dX10_told_131 (by rw [toldF, if_neg (by decide)]; rfl) (rfl)
  · refine j_tabC hE 132 4 dX10_told_1 cs (by decide) (by decide) rfl (by decide) ?_
    subst cs
    refine j_aload0 hE dX10_told_132 ?_
    refine j_getr hE fX10_67 dX10_told_133 (j := pp) (by first | assumption | rfl) (by assumption) ?_
    refine j_geti hE fX10_123 dX10_told_136 (by first | assumption | rfl) ?_
    exact j_iret hE hR dX10_told_139 (by rw [toldF, if_neg (by decide)]; rfl) (rfl)
  · refine j_tabC hE 140 5 dX10_told_1 cs (by decide) (by decide) rfl (by decide) ?_
    subst cs
    refine j_aload0 hE dX10_told_140 ?_
    refine j_getr hE fX10_10 dX10_told_141 (j := 1) (by first | assumption | rfl) (rfl) ?_
    refine j_geti hE fX10_126 dX10_told_144 (by first | assumption | rfl) ?_
    exact j_iret hE hR dX10_told_147 (by rw [toldF, if_neg (by decide)]; rfl) (rfl)
  · refine j_tabC hE 148 6 dX10_told_1 cs (by decide) (by decide) rfl (by decide) ?_
    subst cs
    refine j_aload0 hE dX10_told_148 ?_
    refine j_getr hE fX10_19 dX10_told_149 (j := 3) (by first | assumption | rfl) (rfl) ?_
    refine j_geti hE fX10_129 dX10_told_152 (by first | assumption | rfl) ?_
    exact j_iret hE hR dX10_told_155 (by rw [toldF, if_neg (by decide)]; rfl) (rfl)
  · refine j_tabC hE 156 7 dX10_told_1 cs (by decide) (by decide) rfl (by decide) ?_
    subst cs
    refine j_aload0 hE dX10_told_156 ?_
    refine j_getr hE fX10_19 dX10_told_157 (j := 3) (by first | assumption | rfl) (rfl) ?_
    refine j_geti hE fX10_132 dX10_told_160 (by first | assumption | rfl) ?_
    exact j_iret hE hR dX10_told_163 (by rw [toldF, if_neg (by decide)]; rfl) (rfl)
  · refine j_tabC hE 164 8 dX10_told_1 cs (by decide) (by decide) rfl (by decide) ?_
    subst cs
    refine j_aload0 hE dX10_told_164 ?_
    refine j_getr hE fX10_19 dX10_told_165 (j := 3) (by first | assumption | rfl) (rfl) ?_
    refine j_V0i hE mX10_135 (c_X1_marks l C hC _ 3 rfl rfl rfl) dX10_told_168 (by first | assumption | rfl) (by decide) (Nat.le_of_ble_eq_true rfl) ?_
    exact j_iret hE hR dX10_told_171 (by rw [toldF, if_neg (by decide)]; rfl) (rfl)
  · refine j_tabC hE 172 9 dX10_told_1 cs (by decide) (by decide) rfl (by decide) ?_
    subst cs
    refine j_aload0 hE dX10_told_172 ?_
    refine j_getr hE fX10_19 dX10_told_173 (j := 3) (by first | assumption | rfl) (rfl) ?_
    refine j_geti hE fX10_138 dX10_told_176 (by first | assumption | rfl) ?_
    exact j_iret hE hR dX10_told_179 (by rw [toldF, if_neg (by decide)]; rfl) (rfl)
  · refine j_tabC hE 180 10 dX10_told_1 cs (by decide) (by decide) rfl (by decide) ?_
    subst cs
    refine j_aload0 hE dX10_told_180 ?_
    refine j_getr hE fX10_19 dX10_told_181 (j := 3) (by first | assumption | rfl) (rfl) ?_
    refine j_geti hE fX10_141 dX10_told_184 (by first | assumption | rfl) ?_
    exact j_iret hE hR dX10_told_187 (by rw [toldF, if_neg (by decide)]; rfl) (rfl)
  · refine j_tabC hE 188 11 dX10_told_1 cs (by decide) (by decide) rfl (by decide) ?_
    subst cs
    refine j_aload0 hE dX10_told_188 ?_
    refine j_getr hE fX10_19 dX10_told_189 (j := 3) (by first | assumption | rfl) (rfl) ?_
    refine j_geti hE fX10_144 dX10_told_192 (by first | assumption | rfl) ?_
    exact j_iret hE hR dX10_told_195 (by rw [toldF, if_neg (by decide)]; rfl) (rfl)
  · refine j_tabC hE 196 12 dX10_told_1 cs (by decide) (by decide) rfl (by decide) ?_
    subst cs
    refine j_aload0 hE dX10_told_196 ?_
    refine j_getr hE fX10_19 dX10_told_197 (j := 3) (by first | assumption | rfl) (rfl) ?_
    refine j_V0i hE mX10_147 (c_X1_allWet l C hC _ 3 rfl rfl rfl) dX10_told_200 (by first | assumption | rfl) (by decide) (Nat.le_of_ble_eq_true rfl) ?_
    exact j_iret hE hR dX10_told_203 (by rw [toldF, if_neg (by decide)]; rfl) (rfl)
  · refine j_tabC hE 204 13 dX10_told_1 cs (by decide) (by decide) rfl (by decide) ?_
    subst cs
    refine j_aload0 hE dX10_told_204 ?_
    refine j_getr hE fX10_67 dX10_told_205 (j := pp) (by first | assumption | rfl) (by assumption) ?_
    refine j_aload0 hE dX10_told_208 ?_
    refine j_getr hE fX10_19 dX10_told_209 (j := 3) (by first | assumption | rfl) (rfl) ?_
    refine j_V0i hE mX10_135 (c_X1_marks l C hC _ 3 rfl rfl rfl) dX10_told_212 (by first | assumption | rfl) (by decide) (Nat.le_of_ble_eq_true rfl) ?_
    refine j_S2i hE mX10_150 (c_X5_whom l C hC _ pp h0 h1 h2 h3 h4 _ nf hnf hfl) dX10_told_215 (by decide) (Nat.le_of_ble_eq_true rfl) ?_
    exact j_iret hE hR dX10_told_218 (by rw [toldF, if_neg (by decide)]; rfl) (rfl)
  · refine j_tabC hE 219 14 dX10_told_1 cs (by decide) (by decide) rfl (by decide) ?_
    subst cs
    refine j_aload0 hE dX10_told_219 ?_
    refine j_getr hE fX10_67 dX10_told_220 (j := pp) (by first | assumption | rfl) (by assumption) ?_
    refine j_aload0 hE dX10_told_223 ?_
    refine j_getr hE fX10_19 dX10_told_224 (j := 3) (by first | assumption | rfl) (rfl) ?_
    refine j_V0i hE mX10_135 (c_X1_marks l C hC _ 3 rfl rfl rfl) dX10_told_227 (by first | assumption | rfl) (by decide) (Nat.le_of_ble_eq_true rfl) ?_
    refine j_S2i hE mX10_156 (c_X5_mayBe l C hC _ pp h0 h1 h2 h3 h4 _ nf hnf hfl) dX10_told_230 (by decide) (Nat.le_of_ble_eq_true rfl) ?_
    exact j_iret hE hR dX10_told_233 (by rw [toldF, if_neg (by decide)]; rfl) (rfl)
  · refine j_tabC hE 234 15 dX10_told_1 cs (by decide) (by decide) rfl (by decide) ?_
    subst cs
    refine j_aload0 hE dX10_told_234 ?_
    refine j_getr hE fX10_67 dX10_told_235 (j := pp) (by first | assumption | rfl) (by assumption) ?_
    refine j_aload0 hE dX10_told_238 ?_
    refine j_getr hE fX10_19 dX10_told_239 (j := 3) (by first | assumption | rfl) (rfl) ?_
    refine j_V0i hE mX10_135 (c_X1_marks l C hC _ 3 rfl rfl rfl) dX10_told_242 (by first | assumption | rfl) (by decide) (Nat.le_of_ble_eq_true rfl) ?_
    refine j_S2i hE mX10_159 (c_X5_groups l C hC _ pp h0 _ nn hnn hn25) dX10_told_245 (by decide) (Nat.le_of_ble_eq_true rfl) ?_
    exact j_iret hE hR dX10_told_248 (by rw [toldF, if_neg (by decide)]; rfl) (rfl)
  · refine j_tabC hE 249 16 dX10_told_1 cs (by decide) (by decide) rfl (by decide) ?_
    subst cs
    refine j_aload0 hE dX10_told_249 ?_
    refine j_getr hE fX10_67 dX10_told_250 (j := pp) (by first | assumption | rfl) (by assumption) ?_
    refine j_aload0 hE dX10_told_253 ?_
    refine j_getr hE fX10_19 dX10_told_254 (j := 3) (by first | assumption | rfl) (rfl) ?_
    refine j_V0i hE mX10_135 (c_X1_marks l C hC _ 3 rfl rfl rfl) dX10_told_257 (by first | assumption | rfl) (by decide) (Nat.le_of_ble_eq_true rfl) ?_
    refine j_S2i hE mX10_162 (c_X5_greatestGroup l C hC _ pp h0 _ nn hnn hn25) dX10_told_260 (by decide) (Nat.le_of_ble_eq_true rfl) ?_
    exact j_iret hE hR dX10_told_263 (by rw [toldF, if_neg (by decide)]; rfl) (rfl)
  · refine j_tabC hE 264 17 dX10_told_1 cs (by decide) (by decide) rfl (by decide) ?_
    subst cs
    refine j_aload0 hE dX10_told_264 ?_
    refine j_getr hE fX10_67 dX10_told_265 (j := pp) (by first | assumption | rfl) (by assumption) ?_
    refine j_aload0 hE dX10_told_268 ?_
    refine j_getr hE fX10_19 dX10_told_269 (j := 3) (by first | assumption | rfl) (rfl) ?_
    refine j_V0i hE mX10_135 (c_X1_marks l C hC _ 3 rfl rfl rfl) dX10_told_272 (by first | assumption | rfl) (by decide) (Nat.le_of_ble_eq_true rfl) ?_
    refine j_S2i hE mX10_165 (c_X5_border l C hC _ pp h0 _) dX10_told_275 (by decide) (Nat.le_of_ble_eq_true rfl) ?_
    exact j_iret hE hR dX10_told_278 (by rw [toldF, if_neg (by decide)]; rfl) (rfl)
  · refine j_tabC hE 279 18 dX10_told_1 cs (by decide) (by decide) rfl (by decide) ?_
    subst cs
    refine j_aload0 hE dX10_told_279 ?_
    refine j_getr hE fX10_67 dX10_told_280 (j := pp) (by first | assumption | rfl) (by assumption) ?_
    refine j_aload0 hE dX10_told_283 ?_
    refine j_getr hE fX10_19 dX10_told_284 (j := 3) (by first | assumption | rfl) (rfl) ?_
    refine j_V0i hE mX10_135 (c_X1_marks l C hC _ 3 rfl rfl rfl) dX10_told_287 (by first | assumption | rfl) (by decide) (Nat.le_of_ble_eq_true rfl) ?_
    refine j_S2i hE mX10_168 (c_X5_fullest l C hC _ pp h0 _ hh hhh hh25) dX10_told_290 (by decide) (Nat.le_of_ble_eq_true rfl) ?_
    exact j_iret hE hR dX10_told_293 (by rw [toldF, if_neg (by decide)]; rfl) (rfl)
  · refine j_tabC hE 294 19 dX10_told_1 cs (by decide) (by decide) rfl (by decide) ?_
    subst cs
    refine j_aload0 hE dX10_told_294 ?_
    refine j_getr hE fX10_47 dX10_told_295 (j := 91) (by first | assumption | rfl) (rfl) ?_
    refine j_geti hE fX10_171 dX10_told_298 (by first | assumption | rfl) ?_
    exact j_iret hE hR dX10_told_301 (by rw [toldF, if_neg (by decide)]; rfl) (rfl)
  · refine j_tabC hE 302 20 dX10_told_1 cs (by decide) (by decide) rfl (by decide) ?_
    subst cs
    refine j_aload0 hE dX10_told_302 ?_
    refine j_getr hE fX10_40 dX10_told_303 (j := 41) (by first | assumption | rfl) (rfl) ?_
    refine j_geti hE fX10_172 dX10_told_306 (by first | assumption | rfl) ?_
    exact j_iret hE hR dX10_told_309 (by rw [toldF, if_neg (by decide)]; rfl) (rfl)
  · refine j_tabOut hE 310 dX10_told_1 (sw_out cs) (by decide) ?_
    refine j_ldc hE dX10_told_310 kX10_79 ?_
    exact j_iret hE hR dX10_told_312 (by rw [toldF, if_pos cs]) (rfl)

set_option maxHeartbeats 4000000 in
set_option maxRecDepth 100000 in
theorem c_X10_cell (l : Launch) (C : JC) (hC : JInj C) (S : Sto) (pp : Nat) (hpl : (S 0 8).toNatClampNeg = pp) (h0 : jsh pp = (0, 6)) (h1 : jsh (pp + 1) = (1, 4)) (h2 : jsh (pp + 2) = (1, 6)) (h3 : jsh (pp + 3) = (1, 6)) (h4 : jsh (pp + 4) = (1, 5)) (x : Int32) : Con l C yX10_cell cX10_cell 2 (some .int) 3 [.ref (C.2.1 0), .int x] S (some (.int (if hasP (plCells S pp) x then pickF 25 (S 4) x else -1000000001))) (S) := by
  refine con_of RX10 0 [some (.ref (C.2.1 0)), some (.int x)] (by decide) rfl hC (Nat.le_of_ble_eq_true rfl) rfl (Nat.le_of_ble_eq_true rfl) (fun E hE hR => ?_)
  refine j_aload0 hE dX10_cell_0 ?_
  refine j_getr hE fX10_67 dX10_cell_1 (j := pp) (by first | assumption | rfl) (by assumption) ?_
  refine j_iload1 hE dX10_cell_4 ?_
  refine j_V1i hE mX10_173 (c_X7_hasCell l C hC _ pp h0 x) dX10_cell_5 (by first | assumption | rfl) (by decide) (Nat.le_of_ble_eq_true rfl) ?_
  first | refine j_ifeqP hE 25 dX10_cell_8 (by decide) (fun c8 => ?_) (fun c8 => ?_) | refine j_ifeq hE 25 dX10_cell_8 (by decide) (fun c8 => ?_) (fun c8 => ?_)
  · skip
    refine j_ldc hE dX10_cell_25 kX10_185 ?_
    exact j_iret hE hR dX10_cell_27 (by first | (rw [if_neg c8]; done) | (rw [if_pos c8]; done)) (rfl)
  · skip
    refine j_aload0 hE dX10_cell_11 ?_
    refine j_getr hE fX10_19 dX10_cell_12 (j := 3) (by first | assumption | rfl) (rfl) ?_
    refine j_getr hE fX10_177 dX10_cell_15 (by first | assumption | rfl) (rf_o (by first | assumption | rfl) (by decide)) ?_
    refine j_iload1 hE dX10_cell_18 ?_
    refine j_S2i hE mX10_181 (c_X10_pick l C hC _ 4 25 rfl (by decide) x) dX10_cell_19 (by decide) (Nat.le_of_ble_eq_true rfl) ?_
    refine j_goto hE 27 dX10_cell_22 (by decide) ?_
    exact j_iret hE hR dX10_cell_27 (by first | (rw [if_neg c8]; done) | (rw [if_pos c8]; done)) (rfl)

set_option maxHeartbeats 4000000 in
set_option maxRecDepth 100000 in
theorem c_X10_leak (l : Launch) (C : JC) (hC : JInj C) (S : Sto) (pp : Nat) (hpl : (S 0 8).toNatClampNeg = pp) (h0 : jsh pp = (0, 6)) (h1 : jsh (pp + 1) = (1, 4)) (h2 : jsh (pp + 2) = (1, 6)) (h3 : jsh (pp + 3) = (1, 6)) (h4 : jsh (pp + 4) = (1, 5)) (x : Int32) : Con l C yX10_leak cX10_leak 2 (some .int) 3 [.ref (C.2.1 0), .int x] S (some (.int (if hasP (S pp 8) x then pickF 4 (S 5) x else -1000000001))) (S) := by
  refine con_of RX10 0 [some (.ref (C.2.1 0)), some (.int x)] (by decide) rfl hC (Nat.le_of_ble_eq_true rfl) rfl (Nat.le_of_ble_eq_true rfl) (fun E hE hR => ?_)
  refine j_aload0 hE dX10_leak_0 ?_
  refine j_getr hE fX10_67 dX10_leak_1 (j := pp) (by first | assumption | rfl) (by assumption) ?_
  refine j_iload1 hE dX10_leak_4 ?_
  refine j_V1i hE mX10_186 (c_X7_hasLeak l C hC _ pp h0 x) dX10_leak_5 (by first | assumption | rfl) (by decide) (Nat.le_of_ble_eq_true rfl) ?_
  first | refine j_ifeqP hE 25 dX10_leak_8 (by decide) (fun c8 => ?_) (fun c8 => ?_) | refine j_ifeq hE 25 dX10_leak_8 (by decide) (fun c8 => ?_) (fun c8 => ?_)
  · skip
    refine j_ldc hE dX10_leak_25 kX10_185 ?_
    exact j_iret hE hR dX10_leak_27 (by first | (rw [if_neg c8]; done) | (rw [if_pos c8]; done)) (rfl)
  · skip
    refine j_aload0 hE dX10_leak_11 ?_
    refine j_getr hE fX10_19 dX10_leak_12 (j := 3) (by first | assumption | rfl) (rfl) ?_
    refine j_getr hE fX10_189 dX10_leak_15 (by first | assumption | rfl) (rf_o (by first | assumption | rfl) (by decide)) ?_
    refine j_iload1 hE dX10_leak_18 ?_
    refine j_S2i hE mX10_181 (c_X10_pick l C hC _ 5 4 rfl (by decide) x) dX10_leak_19 (by decide) (Nat.le_of_ble_eq_true rfl) ?_
    refine j_goto hE 27 dX10_leak_22 (by decide) ?_
    exact j_iret hE hR dX10_leak_27 (by first | (rw [if_neg c8]; done) | (rw [if_pos c8]; done)) (rfl)

def sw3F (w a b c d : Int32) : Int32 := if w = nI 0 then a else if w = nI 1 then b else if w = nI 2 then c else d
theorem sw3_0 {a b c d : Int32} : sw3F (nI 0) a b c d = a := rfl
theorem sw3_1 {a b c d : Int32} : sw3F (nI 1) a b c d = b := by rw [sw3F, if_neg (by decide), if_pos rfl]
theorem sw3_2 {a b c d : Int32} : sw3F (nI 2) a b c d = c := by rw [sw3F, if_neg (by decide), if_neg (by decide), if_pos rfl]
theorem sw3_d {w a b c d : Int32} (h : w.toInt < 0 ∨ 2 < w.toInt) : sw3F w a b c d = d := by rw [sw3F, if_neg (sw3_n0 h).1, if_neg (sw3_n0 h).2.1, if_neg (sw3_n0 h).2.2]
def sw2F (w a b d : Int32) : Int32 := if w = nI 0 then a else if w = nI 1 then b else d
theorem sw2_0 {a b d : Int32} : sw2F (nI 0) a b d = a := rfl
theorem sw2_1 {a b d : Int32} : sw2F (nI 1) a b d = b := by rw [sw2F, if_neg (by decide), if_pos rfl]
theorem sw2_d {w a b d : Int32} (h : w.toInt < 0 ∨ 1 < w.toInt) : sw2F w a b d = d := by
  rw [sw2F, if_neg (fun q => by subst q; exact absurd h (by decide)), if_neg (fun q => by subst q; exact absurd h (by decide))]
set_option maxHeartbeats 4000000 in
set_option maxRecDepth 100000 in
theorem c_X10_crack (l : Launch) (C : JC) (hC : JInj C) (S : Sto) (pp : Nat) (hpl : (S 0 8).toNatClampNeg = pp) (h0 : jsh pp = (0, 6)) (h1 : jsh (pp + 1) = (1, 4)) (h2 : jsh (pp + 2) = (1, 6)) (h3 : jsh (pp + 3) = (1, 6)) (h4 : jsh (pp + 4) = (1, 5)) (x w : Int32) : Con l C yX10_crack cX10_crack 3 (some .int) 3 [.ref (C.2.1 0), .int x, .int w] S (some (.int (if hasP (S pp 9) x then sw3F w (pickF 6 (S (pp + 2)) x) (pickF 6 (S (pp + 3)) x) (if bitP (S 3 3) x then nI 1 else nI 0) (-1000000002) else -1000000001))) (S) := by
  refine con_of RX10 0 [some (.ref (C.2.1 0)), some (.int x), some (.int w)] (by decide) rfl hC (Nat.le_of_ble_eq_true rfl) rfl (Nat.le_of_ble_eq_true rfl) (fun E hE hR => ?_)
  refine j_aload0 hE dX10_crack_0 ?_
  refine j_getr hE fX10_67 dX10_crack_1 (j := pp) (by first | assumption | rfl) (by assumption) ?_
  refine j_iload1 hE dX10_crack_4 ?_
  refine j_V1i hE mX10_192 (c_X7_hasCrack l C hC _ pp h0 x) dX10_crack_5 (by first | assumption | rfl) (by decide) (Nat.le_of_ble_eq_true rfl) ?_
  first | refine j_ifneP hE 14 dX10_crack_8 (by decide) (fun c8 => ?_) (fun c8 => ?_) | refine j_ifne hE 14 dX10_crack_8 (by decide) (fun c8 => ?_) (fun c8 => ?_)
  · skip
    refine j_iload2 hE dX10_crack_14 ?_
    rcases sw_3 (w) with cs | cs | cs | cs
    · refine j_tabC hE 40 0 dX10_crack_15 cs (by decide) (by decide) rfl (by decide) ?_
      subst cs
      refine j_aload0 hE dX10_crack_40 ?_
      refine j_getr hE fX10_67 dX10_crack_41 (j := pp) (by first | assumption | rfl) (by assumption) ?_
      refine j_getr hE fX10_195 dX10_crack_44 (by first | assumption | rfl) (rf_o (by first | assumption | rfl) (by decide)) ?_
      refine j_iload1 hE dX10_crack_47 ?_
      refine j_S2i hE mX10_181 (c_X10_pick l C hC _ (pp + 2) 6 h2 (by decide) x) dX10_crack_48 (by decide) (Nat.le_of_ble_eq_true rfl) ?_
      exact j_iret hE hR dX10_crack_51 (by rw [if_pos c8, sw3_0]) (rfl)
    · refine j_tabC hE 52 1 dX10_crack_15 cs (by decide) (by decide) rfl (by decide) ?_
      subst cs
      refine j_aload0 hE dX10_crack_52 ?_
      refine j_getr hE fX10_67 dX10_crack_53 (j := pp) (by first | assumption | rfl) (by assumption) ?_
      refine j_getr hE fX10_198 dX10_crack_56 (by first | assumption | rfl) (rf_o (by first | assumption | rfl) (by decide)) ?_
      refine j_iload1 hE dX10_crack_59 ?_
      refine j_S2i hE mX10_181 (c_X10_pick l C hC _ (pp + 3) 6 h3 (by decide) x) dX10_crack_60 (by decide) (Nat.le_of_ble_eq_true rfl) ?_
      exact j_iret hE hR dX10_crack_63 (by rw [if_pos c8, sw3_1]) (rfl)
    · refine j_tabC hE 64 2 dX10_crack_15 cs (by decide) (by decide) rfl (by decide) ?_
      subst cs
      refine j_aload0 hE dX10_crack_64 ?_
      refine j_getr hE fX10_19 dX10_crack_65 (j := 3) (by first | assumption | rfl) (rfl) ?_
      refine j_iload1 hE dX10_crack_68 ?_
      refine j_V1i hE mX10_201 (c_X1_isFilled l C hC _ 3 rfl rfl rfl x) dX10_crack_69 (by first | assumption | rfl) (by decide) (Nat.le_of_ble_eq_true rfl) ?_
      first | refine j_ifeqP hE 79 dX10_crack_72 (by decide) (fun c72 => ?_) (fun c72 => ?_) | refine j_ifeq hE 79 dX10_crack_72 (by decide) (fun c72 => ?_) (fun c72 => ?_)
      · skip
        refine j_iconst hE (nI 0) dX10_crack_79 kiconst_0 ?_
        exact j_iret hE hR dX10_crack_80 (by first | (rw [if_pos c8, sw3_2, if_pos c72]; done) | (rw [if_pos c8, sw3_2, if_neg c72]; done)) (rfl)
      · skip
        refine j_iconst hE (nI 1) dX10_crack_75 kiconst_1 ?_
        refine j_goto hE 80 dX10_crack_76 (by decide) ?_
        exact j_iret hE hR dX10_crack_80 (by first | (rw [if_pos c8, sw3_2, if_pos c72]; done) | (rw [if_pos c8, sw3_2, if_neg c72]; done)) (rfl)
    · refine j_tabOut hE 81 dX10_crack_15 (sw_out cs) (by decide) ?_
      refine j_ldc hE dX10_crack_81 kX10_79 ?_
      exact j_iret hE hR dX10_crack_83 (by rw [if_pos c8, sw3_d cs]) (rfl)
  · skip
    refine j_ldc hE dX10_crack_11 kX10_185 ?_
    exact j_iret hE hR dX10_crack_13 (by rw [if_neg c8]) (rfl)

set_option maxHeartbeats 4000000 in
set_option maxRecDepth 100000 in
theorem c_X10_likeness (l : Launch) (C : JC) (hC : JInj C) (S : Sto) (pp : Nat) (hpl : (S 0 8).toNatClampNeg = pp) (h0 : jsh pp = (0, 6)) (h1 : jsh (pp + 1) = (1, 4)) (h2 : jsh (pp + 2) = (1, 6)) (h3 : jsh (pp + 3) = (1, 6)) (h4 : jsh (pp + 4) = (1, 5)) (x w : Int32) : Con l C yX10_likeness cX10_likeness 4 (some .int) 3 [.ref (C.2.1 0), .int x, .int w] S (some (.int (if hasP (S pp 10) x then sw3F w (pickF 5 (S (pp + 4)) x) (likF S pp (marksF (S 4) 25) (pickF 5 (S (pp + 4)) x)) (bcF (marksF (S 4) 25 &&& (pickF 5 (S (pp + 4)) x ^^^ (-1)))) (-1000000002) else -1000000001))) (S) := by
  refine con_of RX10 1 [some (.ref (C.2.1 0)), some (.int x), some (.int w), none] (by decide) rfl hC (Nat.le_of_ble_eq_true rfl) rfl (Nat.le_of_ble_eq_true rfl) (fun E hE hR => ?_)
  refine j_aload0 hE dX10_likeness_0 ?_
  refine j_getr hE fX10_67 dX10_likeness_1 (j := pp) (by first | assumption | rfl) (by assumption) ?_
  refine j_iload1 hE dX10_likeness_4 ?_
  refine j_V1i hE mX10_204 (c_X7_hasFace l C hC _ pp h0 x) dX10_likeness_5 (by first | assumption | rfl) (by decide) (Nat.le_of_ble_eq_true rfl) ?_
  first | refine j_ifneP hE 14 dX10_likeness_8 (by decide) (fun c8 => ?_) (fun c8 => ?_) | refine j_ifne hE 14 dX10_likeness_8 (by decide) (fun c8 => ?_) (fun c8 => ?_)
  · skip
    refine j_aload0 hE dX10_likeness_14 ?_
    refine j_getr hE fX10_67 dX10_likeness_15 (j := pp) (by first | assumption | rfl) (by assumption) ?_
    refine j_getr hE fX10_207 dX10_likeness_18 (by first | assumption | rfl) (rf_o (by first | assumption | rfl) (by decide)) ?_
    refine j_iload1 hE dX10_likeness_21 ?_
    refine j_S2i hE mX10_181 (c_X10_pick l C hC _ (pp + 4) 5 h4 (by decide) x) dX10_likeness_22 (by decide) (Nat.le_of_ble_eq_true rfl) ?_
    refine j_istore3 hE dX10_likeness_25 rfl ?_
    refine j_iload2 hE dX10_likeness_26 ?_
    rcases sw_3 (w) with cs | cs | cs | cs
    · refine j_tabC hE 52 0 dX10_likeness_27 cs (by decide) (by decide) rfl (by decide) ?_
      subst cs
      refine j_iload3 hE dX10_likeness_52 ?_
      exact j_iret hE hR dX10_likeness_53 (by rw [if_pos c8, sw3_0]) (rfl)
    · refine j_tabC hE 54 1 dX10_likeness_27 cs (by decide) (by decide) rfl (by decide) ?_
      subst cs
      refine j_aload0 hE dX10_likeness_54 ?_
      refine j_getr hE fX10_67 dX10_likeness_55 (j := pp) (by first | assumption | rfl) (by assumption) ?_
      refine j_aload0 hE dX10_likeness_58 ?_
      refine j_getr hE fX10_19 dX10_likeness_59 (j := 3) (by first | assumption | rfl) (rfl) ?_
      refine j_V0i hE mX10_135 (c_X1_marks l C hC _ 3 rfl rfl rfl) dX10_likeness_62 (by first | assumption | rfl) (by decide) (Nat.le_of_ble_eq_true rfl) ?_
      refine j_iload3 hE dX10_likeness_65 ?_
      refine j_S3i hE mX10_210 (c_X5_like l C hC _ pp h0 _ _) dX10_likeness_66 (by decide) (Nat.le_of_ble_eq_true rfl) ?_
      exact j_iret hE hR dX10_likeness_69 (by rw [if_pos c8, sw3_1]) (rfl)
    · refine j_tabC hE 70 2 dX10_likeness_27 cs (by decide) (by decide) rfl (by decide) ?_
      subst cs
      refine j_aload0 hE dX10_likeness_70 ?_
      refine j_getr hE fX10_19 dX10_likeness_71 (j := 3) (by first | assumption | rfl) (rfl) ?_
      refine j_V0i hE mX10_135 (c_X1_marks l C hC _ 3 rfl rfl rfl) dX10_likeness_74 (by first | assumption | rfl) (by decide) (Nat.le_of_ble_eq_true rfl) ?_
      refine j_iload3 hE dX10_likeness_77 ?_
      refine j_iconst hE (-1) dX10_likeness_78 kiconst_m1 ?_
      refine j_ixor hE dX10_likeness_79 ?_
      refine j_iand hE dX10_likeness_80 ?_
      refine j_S1i hE mX10_214 (c_J6_bitCount_0f7a4 l C hC _ _) dX10_likeness_81 (by decide) (Nat.le_of_ble_eq_true rfl) ?_
      exact j_iret hE hR dX10_likeness_84 (by rw [if_pos c8, sw3_2]) (rfl)
    · refine j_tabOut hE 85 dX10_likeness_27 (sw_out cs) (by decide) ?_
      refine j_ldc hE dX10_likeness_85 kX10_79 ?_
      exact j_iret hE hR dX10_likeness_87 (by rw [if_pos c8, sw3_d cs]) (rfl)
  · skip
    refine j_ldc hE dX10_likeness_11 kX10_185 ?_
    exact j_iret hE hR dX10_likeness_13 (by rw [if_neg c8]) (rfl)

