/-! the model's day: left = cell 127, comes = cell 126, had = cell 125, now = cell 119 -/
def mst (S : Sto) (p : Pr2) : Sto := upA (upA S 127 p.1) 126 p.2
theorem mst_l {S : Sto} {p : Pr2} : mst S p 127 = p.1 := by unfold mst; rw [upA_ne _ _ (by decide), upA_same]
theorem mst_c {S : Sto} {p : Pr2} : mst S p 126 = p.2 := upA_same _ _ _
theorem mst_o {S : Sto} {p : Pr2} {i : Nat} (h1 : i ≠ 127) (h2 : i ≠ 126) : mst S p i = S i := by unfold mst; rw [upA_ne _ _ h2, upA_ne _ _ h1]
theorem mst_self (S : Sto) : mst S (S 127, S 126) = S := by
  unfold mst
  funext j
  unfold upA
  by_cases h : j = 126
  · subst h; simp
  · by_cases q : j = 127
    · subst q; simp
    · simp [h, q]
theorem mst_ul {S : Sto} {p : Pr2} {k : Nat} {v : Int32} : up2 (mst S p) 127 k v = mst S (upd p.1 k v, p.2) := by
  unfold up2
  rw [mst_l]
  unfold mst
  funext j
  unfold upA
  by_cases q : j = 127
  · subst q; simp
  · simp [q]
theorem mst_uc {S : Sto} {p : Pr2} {k : Nat} {v : Int32} : up2 (mst S p) 126 k v = mst S (p.1, upd p.2 k v) := by
  unfold up2
  rw [mst_c]
  unfold mst
  rw [upA_upA]
def mgF (p : Pr2) (a b : Nat) : Pr2 := if p.1 a ≤ 0 then p else (upd p.1 a (p.1 a - nI 1), upd p.2 b (p.2 b + nI 1))
set_option maxHeartbeats 4000000 in
set_option maxRecDepth 100000 in
theorem c_X11_give (l : Launch) (C : JC) (hC : JInj C) (S : Sto) (p : Pr2) (a b : Nat) (ha : a < 25) (hb : b < 25) : Con l C yX11_give cX11_give 3 none 1 [.ref (C.2.1 114), .int (nI a), .int (nI b)] (mst S p) none (mst S (mgF p a b)) := by
  refine con_of RX11 0 [some (.ref (C.2.1 114)), some (.int (nI a)), some (.int (nI b))] (by decide) rfl hC (Nat.le_of_ble_eq_true rfl) rfl (Nat.le_of_ble_eq_true rfl) (fun E hE hR => ?_)
  refine j_aload0 hE dX11_give_0 ?_
  refine j_getr hE fX11_50 dX11_give_1 (j := 127) (by first | assumption | rfl) (rfl) ?_
  refine j_iload1 hE dX11_give_4 ?_
  refine j_ialdN hE dX11_give_5 (by first | assumption | rfl) (by omega) (by decide) ?_
  refine j_ifle hE 29 dX11_give_6 (by decide) (fun c6 => ?_) (fun c6 => ?_)
  · skip
    rw [mst_l] at c6
    exact j_vret hE hR dX11_give_29 (by first | (rw [mgF, if_pos c6]; done) | (rw [mgF, if_neg c6, mst_ul, mst_uc, mst_l, mst_c]; done) | (rw [mgF, if_neg c6, mst_l, mst_ul, mst_c, mst_uc]; done))
  · skip
    rw [mst_l] at c6
    refine j_aload0 hE dX11_give_9 ?_
    refine j_getr hE fX11_50 dX11_give_10 (j := 127) (by first | assumption | rfl) (rfl) ?_
    refine j_iload1 hE dX11_give_13 ?_
    refine j_dup2 hE dX11_give_14 rfl rfl ?_
    refine j_ialdN hE dX11_give_15 (by first | assumption | rfl) (by omega) (by decide) ?_
    refine j_iconst hE (nI 1) dX11_give_16 kiconst_1 ?_
    refine j_isub hE dX11_give_17 ?_
    refine j_iastN hE dX11_give_18 (by first | assumption | rfl) (by omega) (by decide) ?_
    refine j_aload0 hE dX11_give_19 ?_
    refine j_getr hE fX11_47 dX11_give_20 (j := 126) (by first | assumption | rfl) (rfl) ?_
    refine j_iload2 hE dX11_give_23 ?_
    refine j_dup2 hE dX11_give_24 rfl rfl ?_
    refine j_ialdN hE dX11_give_25 (by first | assumption | rfl) (by omega) (by decide) ?_
    refine j_iconst hE (nI 1) dX11_give_26 kiconst_1 ?_
    refine j_iadd hE dX11_give_27 ?_
    refine j_iastN hE dX11_give_28 (by first | assumption | rfl) (by omega) (by decide) ?_
    exact j_vret hE hR dX11_give_29 (by first | (rw [mgF, if_pos c6]; done) | (rw [mgF, if_neg c6, mst_ul, mst_uc, mst_l, mst_c]; done) | (rw [mgF, if_neg c6, mst_l, mst_ul, mst_c, mst_uc]; done))

def bsF (wd : Int32) (x ww : Nat) : Int32 := if wd = nI 1 ∧ ¬ nI x - nI x / nI ww * nI ww ≤ 0 then nI x - nI 1 else if wd = nI 2 ∧ ¬ nI ww - nI 1 ≤ nI x - nI x / nI ww * nI ww then nI x + nI 1 else -1
def toF (S : Sto) (x c : Nat) : Int32 := if S 116 c = nI x then S 117 c else if S 117 c = nI x then S 116 c else -1
def mr1 (S : Sto) (nn ww x : Nat) (p : Pr2) : Pr2 := if nI nn ≤ nI x + nI ww ∨ S 125 x < nI 2 then p else mgF p x (x + ww)
def mr2 (S : Sto) (nn ww x : Nat) (p : Pr2) : Pr2 := if bsF (S 119 29) x ww < 0 ∨ S 125 x < nI 4 then mr1 S nn ww x p else mgF (mr1 S nn ww x p) x (bsF (S 119 29) x ww).toNatClampNeg
def mr3 (S : Sto) (nn ww x : Nat) (p : Pr2) : Nat → Pr2
  | 0 => mr2 S nn ww x p
  | c + 1 => if toF S x c < 0 ∨ hasM (S 119 30) (nI c) ∨ S 125 x < S 125 (toF S x c).toNatClampNeg + nI 2 then mr3 S nn ww x p c else mgF (mr3 S nn ww x p c) x (toF S x c).toNatClampNeg
theorem nx_lt {x ww hh : Nat} (hx : x < hh * ww) (h : x % ww + 1 < ww) : x + 1 < hh * ww := by
  have h1 : x / ww < hh := Nat.div_lt_of_lt_mul (by rw [Nat.mul_comm]; exact hx)
  have h2 := Nat.div_add_mod x ww
  have h3 : ww * (x / ww + 1) ≤ ww * hh := Nat.mul_le_mul_left ww h1
  rw [Nat.mul_add, Nat.mul_comm ww hh] at h3
  omega
theorem bs_n {wd : Int32} {x ww hh : Nat} (hx : x < hh * ww) (h25 : hh * ww ≤ 25) (hw0 : 0 < ww) (hw5 : ww ≤ 5) (h : ¬ bsF wd x ww < 0) : ∃ b, b < 25 ∧ bsF wd x ww = nI b := by
  have er : nI x - nI x / nI ww * nI ww = nI (x % ww) := pk_rem (by omega) hw0 (by omega)
  unfold bsF at h ⊢
  rw [er] at h ⊢
  split
  · next c =>
    have hz : x ≠ 0 := fun q => by subst q; exact c.2 (by rw [Nat.zero_mod]; decide)
    exact ⟨x - 1, by omega, nI_dec hz⟩
  · split
    · next c =>
      have c2 := c.2
      rw [nI_dec (by omega)] at c2
      have c3 : x % ww < ww - 1 := Nat.lt_of_not_le (fun q => c2 (nI_le q (by have := Nat.mod_lt x hw0; omega)))
      have := nx_lt hx (by omega)
      exact ⟨x + 1, by omega, nI_add x 1⟩
    · next c1 c2 =>
      rw [if_neg c1, if_neg c2] at h
      exact absurd (by decide) h
theorem to_n {S : Sto} {x c nc : Nat} (hc : c < nc) (hca : ∀ c, c < nc → ∃ a, a < 25 ∧ S 116 c = nI a) (hcb : ∀ c, c < nc → ∃ b, b < 25 ∧ S 117 c = nI b) (h : ¬ toF S x c < 0) : ∃ b, b < 25 ∧ toF S x c = nI b := by
  unfold toF at h ⊢
  split
  · exact hcb c hc
  · split
    · exact hca c hc
    · next c1 c2 =>
      rw [if_neg c1, if_neg c2] at h
      exact absurd (by decide) h
set_option maxHeartbeats 4000000 in
set_option maxRecDepth 100000 in
theorem c_X11_runFrom (l : Launch) (C : JC) (hC : JInj C) (S : Sto) (hh : Nat) (ww : Nat) (hww : S 114 1 = nI ww) (hw0 : 0 < ww) (hw5 : ww ≤ 5) (nn : Nat) (hnw : nn = hh * ww) (hnn : mcl S = nI nn) (hle : nn ≤ 25) (nc : Nat) (hnc : S 114 4 = nI nc) (hcl : nc ≤ 6) (hca : ∀ c, c < nc → ∃ a, a < 25 ∧ S 116 c = nI a) (hcb : ∀ c, c < nc → ∃ b, b < 25 ∧ S 117 c = nI b) (p : Pr2) (x : Nat) (hx : x < nn) : Con l C yX11_runFrom cX11_runFrom 5 none 2 [.ref (C.2.1 114), .int (nI x)] (mst S p) none (mst S (mr3 S nn ww x p nc)) := by
  have hmw : ∀ q : Pr2, mst S q 114 1 = nI ww := fun q => by rw [mst_o (by decide) (by decide)]; exact hww
  have hmc : ∀ q : Pr2, mcl (mst S q) = nI nn := fun q => by unfold mcl; rw [mst_o (by decide) (by decide)]; exact hnn
  have hwz : ¬ nI ww = 0 := fun q => absurd q (nI_ne0 hw0 (by omega))
  refine con_of RX11 3 [some (.ref (C.2.1 114)), some (.int (nI x)), none, none, none] (by decide) rfl hC (Nat.le_of_ble_eq_true rfl) rfl (Nat.le_of_ble_eq_true rfl) (fun E hE hR => ?_)
  have K114 : ∀ (b2 : Int32), J C E (mst S (mr2 S nn ww x p)) 114 [some (.ref (C.2.1 114)), some (.int (nI x)), some (.int b2), none, none] [] := by
    intro b2 
    refine j_iconst hE (nI 0) dX11_runFrom_114 kiconst_0 ?_
    refine j_istore3 hE dX11_runFrom_115 rfl ?_
    have L116 : ∀ (fu : Nat) (i : Nat) (x4 : Option Value), nc - i < fu → (i ≤ nc) → J C E (mst S (mr3 S nn ww x p i)) 116 [some (.ref (C.2.1 114)), some (.int (nI x)), some (.int b2), some (.int (nI i)), x4] [] := by
      intro fu
      induction fu with
      | zero => intro i x4 hm; omega
      | succ fu ih =>
        intro i x4 hm hi
        refine j_iload3 hE dX11_runFrom_116 ?_
        refine j_aload0 hE dX11_runFrom_117 ?_
        refine j_geti hE fX11_89 dX11_runFrom_118 (by first | assumption | rfl) ?_
        refine j_icmpge hE 215 dX11_runFrom_121 (by decide) (fun c121 => ?_) (fun c121 => ?_)
        · skip
          rw [mst_o (by decide) (by decide), hnc] at c121
          have c121 := (nI_leI (by omega) (by omega)).mp c121
          have hii : i = nc := by omega
          subst hii
          exact j_vret hE hR dX11_runFrom_215 (rfl)
        · skip
          rw [mst_o (by decide) (by decide), hnc] at c121
          have c121 : i < nc := Nat.lt_of_not_le (fun q => c121 (nI_le q (by omega)))
          refine j_aload0 hE dX11_runFrom_124 ?_
          refine j_getr hE fX11_13 dX11_runFrom_125 (j := 116) (by first | assumption | rfl) (rfl) ?_
          refine j_iload3 hE dX11_runFrom_128 ?_
          refine j_ialdN hE dX11_runFrom_129 (by first | assumption | rfl) (by omega) (by decide) ?_
          refine j_iload1 hE dX11_runFrom_130 ?_
          refine j_icmpne hE 143 dX11_runFrom_131 (by decide) (fun c131 => ?_) (fun c131 => ?_)
          · skip
            rw [mst_o (by decide) (by decide)] at c131
            refine j_aload0 hE dX11_runFrom_143 ?_
            refine j_getr hE fX11_16 dX11_runFrom_144 (j := 117) (by first | assumption | rfl) (rfl) ?_
            refine j_iload3 hE dX11_runFrom_147 ?_
            refine j_ialdN hE dX11_runFrom_148 (by first | assumption | rfl) (by omega) (by decide) ?_
            refine j_iload1 hE dX11_runFrom_149 ?_
            refine j_icmpne hE 162 dX11_runFrom_150 (by decide) (fun c150 => ?_) (fun c150 => ?_)
            · skip
              rw [mst_o (by decide) (by decide)] at c150
              refine j_iconst hE (-1) dX11_runFrom_162 kiconst_m1 ?_
              refine j_top (y := toF S x i) (by first | (rw [toF, if_pos c131, mst_o (by decide) (by decide)]; done) | (rw [toF, if_neg c131, if_pos c150, mst_o (by decide) (by decide)]; done) | (rw [toF, if_neg c131, if_neg c150]; done)) ?_
              refine j_istore4 hE dX11_runFrom_163 rfl ?_
              refine j_iload4 hE dX11_runFrom_165 ?_
              refine j_iflt hE 209 dX11_runFrom_167 (by decide) (fun c167 => ?_) (fun c167 => ?_)
              · skip
                refine j_iinc3 hE (nI (i + 1)) dX11_runFrom_209 (nI_inc _) rfl ?_
                refine j_goto hE 116 dX11_runFrom_212 (by decide) ?_
                exact j_cast (by rw [mr3]; first | (rw [if_pos (Or.inl c167)]; done) | (rw [if_pos (Or.inr (Or.inl c181))]; done) | (rw [hb, nI_clamp (by omega), if_pos (Or.inr (Or.inr c199))]; done) | (rw [hb, nI_clamp (by omega), if_neg (fun z => z.elim (fun y => nI_pos (by omega) y) (fun y => y.elim c181 c199))]; done)) rfl (ih (i + 1) _ (by omega) (by omega))
              · skip
                obtain ⟨b, hb25, hb⟩ := to_n (x := x) c121 hca hcb c167
                refine j_aload0 hE dX11_runFrom_170 ?_
                refine j_getr hE fX11_22 dX11_runFrom_171 (j := 119) (by first | assumption | rfl) (rfl) ?_
                refine j_bipush hE (nI 30) dX11_runFrom_174 kbipush_30 ?_
                refine j_ialdN hE dX11_runFrom_176 (by first | assumption | rfl) (by omega) (by decide) ?_
                refine j_iload3 hE dX11_runFrom_177 ?_
                refine j_S2i hE mX11_213 (c_X11_has l C hC _ _ _) dX11_runFrom_178 (by decide) (Nat.le_of_ble_eq_true rfl) ?_
                first | refine j_ifneP hE 209 dX11_runFrom_181 (by decide) (fun c181 => ?_) (fun c181 => ?_) | refine j_ifne hE 209 dX11_runFrom_181 (by decide) (fun c181 => ?_) (fun c181 => ?_)
                · skip
                  rw [mst_o (by decide) (by decide)] at c181
                  refine j_iinc3 hE (nI (i + 1)) dX11_runFrom_209 (nI_inc _) rfl ?_
                  refine j_goto hE 116 dX11_runFrom_212 (by decide) ?_
                  exact j_cast (by rw [mr3]; first | (rw [if_pos (Or.inl c167)]; done) | (rw [if_pos (Or.inr (Or.inl c181))]; done) | (rw [hb, nI_clamp (by omega), if_pos (Or.inr (Or.inr c199))]; done) | (rw [hb, nI_clamp (by omega), if_neg (fun z => z.elim (fun y => nI_pos (by omega) y) (fun y => y.elim c181 c199))]; done)) rfl (ih (i + 1) _ (by omega) (by omega))
                · skip
                  rw [mst_o (by decide) (by decide)] at c181
                  refine j_aload0 hE dX11_runFrom_184 ?_
                  refine j_getr hE fX11_44 dX11_runFrom_185 (j := 125) (by first | assumption | rfl) (rfl) ?_
                  refine j_iload1 hE dX11_runFrom_188 ?_
                  refine j_ialdN hE dX11_runFrom_189 (by first | assumption | rfl) (by omega) (by decide) ?_
                  refine j_aload0 hE dX11_runFrom_190 ?_
                  refine j_getr hE fX11_44 dX11_runFrom_191 (j := 125) (by first | assumption | rfl) (rfl) ?_
                  refine j_iload4 hE dX11_runFrom_194 ?_
                  refine j_top hb ?_
                  refine j_ialdN hE dX11_runFrom_196 (by first | assumption | rfl) (by omega) (by decide) ?_
                  refine j_iconst hE (nI 2) dX11_runFrom_197 kiconst_2 ?_
                  refine j_iadd hE dX11_runFrom_198 ?_
                  refine j_icmplt hE 209 dX11_runFrom_199 (by decide) (fun c199 => ?_) (fun c199 => ?_)
                  · skip
                    rw [mst_o (by decide) (by decide)] at c199
                    refine j_iinc3 hE (nI (i + 1)) dX11_runFrom_209 (nI_inc _) rfl ?_
                    refine j_goto hE 116 dX11_runFrom_212 (by decide) ?_
                    exact j_cast (by rw [mr3]; first | (rw [if_pos (Or.inl c167)]; done) | (rw [if_pos (Or.inr (Or.inl c181))]; done) | (rw [hb, nI_clamp (by omega), if_pos (Or.inr (Or.inr c199))]; done) | (rw [hb, nI_clamp (by omega), if_neg (fun z => z.elim (fun y => nI_pos (by omega) y) (fun y => y.elim c181 c199))]; done)) rfl (ih (i + 1) _ (by omega) (by omega))
                  · skip
                    rw [mst_o (by decide) (by decide)] at c199
                    refine j_aload0 hE dX11_runFrom_202 ?_
                    refine j_iload1 hE dX11_runFrom_203 ?_
                    refine j_iload4 hE dX11_runFrom_204 ?_
                    refine j_top hb ?_
                    refine j_V2v hE mX11_254 (c_X11_give l C hC S _ x b (by omega) hb25) dX11_runFrom_206 (by first | assumption | rfl) (by decide) (Nat.le_of_ble_eq_true rfl) ?_
                    refine j_iinc3 hE (nI (i + 1)) dX11_runFrom_209 (nI_inc _) rfl ?_
                    refine j_goto hE 116 dX11_runFrom_212 (by decide) ?_
                    exact j_cast (by rw [mr3]; first | (rw [if_pos (Or.inl c167)]; done) | (rw [if_pos (Or.inr (Or.inl c181))]; done) | (rw [hb, nI_clamp (by omega), if_pos (Or.inr (Or.inr c199))]; done) | (rw [hb, nI_clamp (by omega), if_neg (fun z => z.elim (fun y => nI_pos (by omega) y) (fun y => y.elim c181 c199))]; done)) rfl (ih (i + 1) _ (by omega) (by omega))
            · skip
              rw [mst_o (by decide) (by decide)] at c150
              refine j_aload0 hE dX11_runFrom_153 ?_
              refine j_getr hE fX11_13 dX11_runFrom_154 (j := 116) (by first | assumption | rfl) (rfl) ?_
              refine j_iload3 hE dX11_runFrom_157 ?_
              refine j_ialdN hE dX11_runFrom_158 (by first | assumption | rfl) (by omega) (by decide) ?_
              refine j_goto hE 163 dX11_runFrom_159 (by decide) ?_
              refine j_top (y := toF S x i) (by first | (rw [toF, if_pos c131, mst_o (by decide) (by decide)]; done) | (rw [toF, if_neg c131, if_pos c150, mst_o (by decide) (by decide)]; done) | (rw [toF, if_neg c131, if_neg c150]; done)) ?_
              refine j_istore4 hE dX11_runFrom_163 rfl ?_
              refine j_iload4 hE dX11_runFrom_165 ?_
              refine j_iflt hE 209 dX11_runFrom_167 (by decide) (fun c167 => ?_) (fun c167 => ?_)
              · skip
                refine j_iinc3 hE (nI (i + 1)) dX11_runFrom_209 (nI_inc _) rfl ?_
                refine j_goto hE 116 dX11_runFrom_212 (by decide) ?_
                exact j_cast (by rw [mr3]; first | (rw [if_pos (Or.inl c167)]; done) | (rw [if_pos (Or.inr (Or.inl c181))]; done) | (rw [hb, nI_clamp (by omega), if_pos (Or.inr (Or.inr c199))]; done) | (rw [hb, nI_clamp (by omega), if_neg (fun z => z.elim (fun y => nI_pos (by omega) y) (fun y => y.elim c181 c199))]; done)) rfl (ih (i + 1) _ (by omega) (by omega))
              · skip
                obtain ⟨b, hb25, hb⟩ := to_n (x := x) c121 hca hcb c167
                refine j_aload0 hE dX11_runFrom_170 ?_
                refine j_getr hE fX11_22 dX11_runFrom_171 (j := 119) (by first | assumption | rfl) (rfl) ?_
                refine j_bipush hE (nI 30) dX11_runFrom_174 kbipush_30 ?_
                refine j_ialdN hE dX11_runFrom_176 (by first | assumption | rfl) (by omega) (by decide) ?_
                refine j_iload3 hE dX11_runFrom_177 ?_
                refine j_S2i hE mX11_213 (c_X11_has l C hC _ _ _) dX11_runFrom_178 (by decide) (Nat.le_of_ble_eq_true rfl) ?_
                first | refine j_ifneP hE 209 dX11_runFrom_181 (by decide) (fun c181 => ?_) (fun c181 => ?_) | refine j_ifne hE 209 dX11_runFrom_181 (by decide) (fun c181 => ?_) (fun c181 => ?_)
                · skip
                  rw [mst_o (by decide) (by decide)] at c181
                  refine j_iinc3 hE (nI (i + 1)) dX11_runFrom_209 (nI_inc _) rfl ?_
                  refine j_goto hE 116 dX11_runFrom_212 (by decide) ?_
                  exact j_cast (by rw [mr3]; first | (rw [if_pos (Or.inl c167)]; done) | (rw [if_pos (Or.inr (Or.inl c181))]; done) | (rw [hb, nI_clamp (by omega), if_pos (Or.inr (Or.inr c199))]; done) | (rw [hb, nI_clamp (by omega), if_neg (fun z => z.elim (fun y => nI_pos (by omega) y) (fun y => y.elim c181 c199))]; done)) rfl (ih (i + 1) _ (by omega) (by omega))
                · skip
                  rw [mst_o (by decide) (by decide)] at c181
                  refine j_aload0 hE dX11_runFrom_184 ?_
                  refine j_getr hE fX11_44 dX11_runFrom_185 (j := 125) (by first | assumption | rfl) (rfl) ?_
                  refine j_iload1 hE dX11_runFrom_188 ?_
                  refine j_ialdN hE dX11_runFrom_189 (by first | assumption | rfl) (by omega) (by decide) ?_
                  refine j_aload0 hE dX11_runFrom_190 ?_
                  refine j_getr hE fX11_44 dX11_runFrom_191 (j := 125) (by first | assumption | rfl) (rfl) ?_
                  refine j_iload4 hE dX11_runFrom_194 ?_
                  refine j_top hb ?_
                  refine j_ialdN hE dX11_runFrom_196 (by first | assumption | rfl) (by omega) (by decide) ?_
                  refine j_iconst hE (nI 2) dX11_runFrom_197 kiconst_2 ?_
                  refine j_iadd hE dX11_runFrom_198 ?_
                  refine j_icmplt hE 209 dX11_runFrom_199 (by decide) (fun c199 => ?_) (fun c199 => ?_)
                  · skip
                    rw [mst_o (by decide) (by decide)] at c199
                    refine j_iinc3 hE (nI (i + 1)) dX11_runFrom_209 (nI_inc _) rfl ?_
                    refine j_goto hE 116 dX11_runFrom_212 (by decide) ?_
                    exact j_cast (by rw [mr3]; first | (rw [if_pos (Or.inl c167)]; done) | (rw [if_pos (Or.inr (Or.inl c181))]; done) | (rw [hb, nI_clamp (by omega), if_pos (Or.inr (Or.inr c199))]; done) | (rw [hb, nI_clamp (by omega), if_neg (fun z => z.elim (fun y => nI_pos (by omega) y) (fun y => y.elim c181 c199))]; done)) rfl (ih (i + 1) _ (by omega) (by omega))
                  · skip
                    rw [mst_o (by decide) (by decide)] at c199
                    refine j_aload0 hE dX11_runFrom_202 ?_
                    refine j_iload1 hE dX11_runFrom_203 ?_
                    refine j_iload4 hE dX11_runFrom_204 ?_
                    refine j_top hb ?_
                    refine j_V2v hE mX11_254 (c_X11_give l C hC S _ x b (by omega) hb25) dX11_runFrom_206 (by first | assumption | rfl) (by decide) (Nat.le_of_ble_eq_true rfl) ?_
                    refine j_iinc3 hE (nI (i + 1)) dX11_runFrom_209 (nI_inc _) rfl ?_
                    refine j_goto hE 116 dX11_runFrom_212 (by decide) ?_
                    exact j_cast (by rw [mr3]; first | (rw [if_pos (Or.inl c167)]; done) | (rw [if_pos (Or.inr (Or.inl c181))]; done) | (rw [hb, nI_clamp (by omega), if_pos (Or.inr (Or.inr c199))]; done) | (rw [hb, nI_clamp (by omega), if_neg (fun z => z.elim (fun y => nI_pos (by omega) y) (fun y => y.elim c181 c199))]; done)) rfl (ih (i + 1) _ (by omega) (by omega))
          · skip
            rw [mst_o (by decide) (by decide)] at c131
            refine j_aload0 hE dX11_runFrom_134 ?_
            refine j_getr hE fX11_16 dX11_runFrom_135 (j := 117) (by first | assumption | rfl) (rfl) ?_
            refine j_iload3 hE dX11_runFrom_138 ?_
            refine j_ialdN hE dX11_runFrom_139 (by first | assumption | rfl) (by omega) (by decide) ?_
            refine j_goto hE 163 dX11_runFrom_140 (by decide) ?_
            refine j_top (y := toF S x i) (by first | (rw [toF, if_pos c131, mst_o (by decide) (by decide)]; done) | (rw [toF, if_neg c131, if_pos c150, mst_o (by decide) (by decide)]; done) | (rw [toF, if_neg c131, if_neg c150]; done)) ?_
            refine j_istore4 hE dX11_runFrom_163 rfl ?_
            refine j_iload4 hE dX11_runFrom_165 ?_
            refine j_iflt hE 209 dX11_runFrom_167 (by decide) (fun c167 => ?_) (fun c167 => ?_)
            · skip
              refine j_iinc3 hE (nI (i + 1)) dX11_runFrom_209 (nI_inc _) rfl ?_
              refine j_goto hE 116 dX11_runFrom_212 (by decide) ?_
              exact j_cast (by rw [mr3]; first | (rw [if_pos (Or.inl c167)]; done) | (rw [if_pos (Or.inr (Or.inl c181))]; done) | (rw [hb, nI_clamp (by omega), if_pos (Or.inr (Or.inr c199))]; done) | (rw [hb, nI_clamp (by omega), if_neg (fun z => z.elim (fun y => nI_pos (by omega) y) (fun y => y.elim c181 c199))]; done)) rfl (ih (i + 1) _ (by omega) (by omega))
            · skip
              obtain ⟨b, hb25, hb⟩ := to_n (x := x) c121 hca hcb c167
              refine j_aload0 hE dX11_runFrom_170 ?_
              refine j_getr hE fX11_22 dX11_runFrom_171 (j := 119) (by first | assumption | rfl) (rfl) ?_
              refine j_bipush hE (nI 30) dX11_runFrom_174 kbipush_30 ?_
              refine j_ialdN hE dX11_runFrom_176 (by first | assumption | rfl) (by omega) (by decide) ?_
              refine j_iload3 hE dX11_runFrom_177 ?_
              refine j_S2i hE mX11_213 (c_X11_has l C hC _ _ _) dX11_runFrom_178 (by decide) (Nat.le_of_ble_eq_true rfl) ?_
              first | refine j_ifneP hE 209 dX11_runFrom_181 (by decide) (fun c181 => ?_) (fun c181 => ?_) | refine j_ifne hE 209 dX11_runFrom_181 (by decide) (fun c181 => ?_) (fun c181 => ?_)
              · skip
                rw [mst_o (by decide) (by decide)] at c181
                refine j_iinc3 hE (nI (i + 1)) dX11_runFrom_209 (nI_inc _) rfl ?_
                refine j_goto hE 116 dX11_runFrom_212 (by decide) ?_
                exact j_cast (by rw [mr3]; first | (rw [if_pos (Or.inl c167)]; done) | (rw [if_pos (Or.inr (Or.inl c181))]; done) | (rw [hb, nI_clamp (by omega), if_pos (Or.inr (Or.inr c199))]; done) | (rw [hb, nI_clamp (by omega), if_neg (fun z => z.elim (fun y => nI_pos (by omega) y) (fun y => y.elim c181 c199))]; done)) rfl (ih (i + 1) _ (by omega) (by omega))
              · skip
                rw [mst_o (by decide) (by decide)] at c181
                refine j_aload0 hE dX11_runFrom_184 ?_
                refine j_getr hE fX11_44 dX11_runFrom_185 (j := 125) (by first | assumption | rfl) (rfl) ?_
                refine j_iload1 hE dX11_runFrom_188 ?_
                refine j_ialdN hE dX11_runFrom_189 (by first | assumption | rfl) (by omega) (by decide) ?_
                refine j_aload0 hE dX11_runFrom_190 ?_
                refine j_getr hE fX11_44 dX11_runFrom_191 (j := 125) (by first | assumption | rfl) (rfl) ?_
                refine j_iload4 hE dX11_runFrom_194 ?_
                refine j_top hb ?_
                refine j_ialdN hE dX11_runFrom_196 (by first | assumption | rfl) (by omega) (by decide) ?_
                refine j_iconst hE (nI 2) dX11_runFrom_197 kiconst_2 ?_
                refine j_iadd hE dX11_runFrom_198 ?_
                refine j_icmplt hE 209 dX11_runFrom_199 (by decide) (fun c199 => ?_) (fun c199 => ?_)
                · skip
                  rw [mst_o (by decide) (by decide)] at c199
                  refine j_iinc3 hE (nI (i + 1)) dX11_runFrom_209 (nI_inc _) rfl ?_
                  refine j_goto hE 116 dX11_runFrom_212 (by decide) ?_
                  exact j_cast (by rw [mr3]; first | (rw [if_pos (Or.inl c167)]; done) | (rw [if_pos (Or.inr (Or.inl c181))]; done) | (rw [hb, nI_clamp (by omega), if_pos (Or.inr (Or.inr c199))]; done) | (rw [hb, nI_clamp (by omega), if_neg (fun z => z.elim (fun y => nI_pos (by omega) y) (fun y => y.elim c181 c199))]; done)) rfl (ih (i + 1) _ (by omega) (by omega))
                · skip
                  rw [mst_o (by decide) (by decide)] at c199
                  refine j_aload0 hE dX11_runFrom_202 ?_
                  refine j_iload1 hE dX11_runFrom_203 ?_
                  refine j_iload4 hE dX11_runFrom_204 ?_
                  refine j_top hb ?_
                  refine j_V2v hE mX11_254 (c_X11_give l C hC S _ x b (by omega) hb25) dX11_runFrom_206 (by first | assumption | rfl) (by decide) (Nat.le_of_ble_eq_true rfl) ?_
                  refine j_iinc3 hE (nI (i + 1)) dX11_runFrom_209 (nI_inc _) rfl ?_
                  refine j_goto hE 116 dX11_runFrom_212 (by decide) ?_
                  exact j_cast (by rw [mr3]; first | (rw [if_pos (Or.inl c167)]; done) | (rw [if_pos (Or.inr (Or.inl c181))]; done) | (rw [hb, nI_clamp (by omega), if_pos (Or.inr (Or.inr c199))]; done) | (rw [hb, nI_clamp (by omega), if_neg (fun z => z.elim (fun y => nI_pos (by omega) y) (fun y => y.elim c181 c199))]; done)) rfl (ih (i + 1) _ (by omega) (by omega))
    exact L116 (nc + 1) 0 _ (by omega) (by omega)
  have K94 : ∀ (_u : Unit), J C E (mst S (mr1 S nn ww x p)) 94 [some (.ref (C.2.1 114)), some (.int (nI x)), some (.int (bsF (S 119 29) x ww)), none, none] [] := by
    intro _u 
    refine j_iload2 hE dX11_runFrom_94 ?_
    refine j_iflt hE 114 dX11_runFrom_95 (by decide) (fun c95 => ?_) (fun c95 => ?_)
    · skip
      exact j_cast (by rw [mr2]; first | (rw [if_pos (Or.inl c95)]; done) | (rw [if_pos (Or.inr c105)]; done) | (rw [hb, nI_clamp (by omega), if_neg (fun z => z.elim (nI_pos (by omega)) c105)]; done)) rfl (K114 _)
    · skip
      obtain ⟨b, hb25, hb⟩ := bs_n (by rw [← hnw]; exact hx) (by rw [← hnw]; exact hle) hw0 hw5 c95
      refine j_aload0 hE dX11_runFrom_98 ?_
      refine j_getr hE fX11_44 dX11_runFrom_99 (j := 125) (by first | assumption | rfl) (rfl) ?_
      refine j_iload1 hE dX11_runFrom_102 ?_
      refine j_ialdN hE dX11_runFrom_103 (by first | assumption | rfl) (by omega) (by decide) ?_
      refine j_iconst hE (nI 4) dX11_runFrom_104 kiconst_4 ?_
      refine j_icmplt hE 114 dX11_runFrom_105 (by decide) (fun c105 => ?_) (fun c105 => ?_)
      · skip
        rw [mst_o (by decide) (by decide)] at c105
        exact j_cast (by rw [mr2]; first | (rw [if_pos (Or.inl c95)]; done) | (rw [if_pos (Or.inr c105)]; done) | (rw [hb, nI_clamp (by omega), if_neg (fun z => z.elim (nI_pos (by omega)) c105)]; done)) rfl (K114 _)
      · skip
        rw [mst_o (by decide) (by decide)] at c105
        refine j_aload0 hE dX11_runFrom_108 ?_
        refine j_iload1 hE dX11_runFrom_109 ?_
        refine j_iload2 hE dX11_runFrom_110 ?_
        refine j_top hb ?_
        refine j_V2v hE mX11_254 (c_X11_give l C hC S _ x b (by omega) hb25) dX11_runFrom_111 (by first | assumption | rfl) (by decide) (Nat.le_of_ble_eq_true rfl) ?_
        exact j_cast (by rw [mr2]; first | (rw [if_pos (Or.inl c95)]; done) | (rw [if_pos (Or.inr c105)]; done) | (rw [hb, nI_clamp (by omega), if_neg (fun z => z.elim (nI_pos (by omega)) c105)]; done)) rfl (K114 _)
  have K34 : ∀ (_u : Unit), J C E (mst S (mr1 S nn ww x p)) 34 [some (.ref (C.2.1 114)), some (.int (nI x)), none, none, none] [] := by
    intro _u 
    refine j_aload0 hE dX11_runFrom_34 ?_
    refine j_getr hE fX11_22 dX11_runFrom_35 (j := 119) (by first | assumption | rfl) (rfl) ?_
    refine j_bipush hE (nI 29) dX11_runFrom_38 kbipush_29 ?_
    refine j_ialdN hE dX11_runFrom_40 (by first | assumption | rfl) (by omega) (by decide) ?_
    refine j_iconst hE (nI 1) dX11_runFrom_41 kiconst_1 ?_
    refine j_icmpne hE 60 dX11_runFrom_42 (by decide) (fun c42 => ?_) (fun c42 => ?_)
    · skip
      rw [mst_o (by decide) (by decide)] at c42
      refine j_aload0 hE dX11_runFrom_60 ?_
      refine j_getr hE fX11_22 dX11_runFrom_61 (j := 119) (by first | assumption | rfl) (rfl) ?_
      refine j_bipush hE (nI 29) dX11_runFrom_64 kbipush_29 ?_
      refine j_ialdN hE dX11_runFrom_66 (by first | assumption | rfl) (by omega) (by decide) ?_
      refine j_iconst hE (nI 2) dX11_runFrom_67 kiconst_2 ?_
      refine j_icmpne hE 92 dX11_runFrom_68 (by decide) (fun c68 => ?_) (fun c68 => ?_)
      · skip
        rw [mst_o (by decide) (by decide)] at c68
        refine j_iconst hE (-1) dX11_runFrom_92 kiconst_m1 ?_
        refine j_top (y := bsF (S 119 29) x ww) (by first | (rw [bsF, if_pos ⟨c42, c51⟩]; done) | (rw [bsF, if_neg (fun z => c42 z.1), if_pos ⟨c68, c83⟩, ]; done) | (rw [bsF, if_neg (fun z => c42 z.1), if_neg (fun z => c68 z.1)]; done) | (rw [bsF, if_neg (fun z => c42 z.1), if_neg (fun z => z.2 c83)]; done) | (rw [bsF, if_neg (fun z => z.2 c51), if_pos ⟨c68, c83⟩]; done) | (rw [bsF, if_neg (fun z => z.2 c51), if_neg (fun z => c68 z.1)]; done) | (rw [bsF, if_neg (fun z => z.2 c51), if_neg (fun z => z.2 c83)]; done)) ?_
        refine j_istore2 hE dX11_runFrom_93 rfl ?_
        exact K94 ()
      · skip
        rw [mst_o (by decide) (by decide)] at c68
        refine j_iload1 hE dX11_runFrom_71 ?_
        refine j_aload0 hE dX11_runFrom_72 ?_
        refine j_geti hE fX11_75 dX11_runFrom_73 (by first | assumption | rfl) ?_
        refine j_irem hE dX11_runFrom_76 (by rw [hmw]; exact hwz) ?_
        refine j_aload0 hE dX11_runFrom_77 ?_
        refine j_geti hE fX11_75 dX11_runFrom_78 (by first | assumption | rfl) ?_
        refine j_iconst hE (nI 1) dX11_runFrom_81 kiconst_1 ?_
        refine j_isub hE dX11_runFrom_82 ?_
        refine j_icmpge hE 92 dX11_runFrom_83 (by decide) (fun c83 => ?_) (fun c83 => ?_)
        · skip
          rw [hmw] at c83
          refine j_iconst hE (-1) dX11_runFrom_92 kiconst_m1 ?_
          refine j_top (y := bsF (S 119 29) x ww) (by first | (rw [bsF, if_pos ⟨c42, c51⟩]; done) | (rw [bsF, if_neg (fun z => c42 z.1), if_pos ⟨c68, c83⟩, ]; done) | (rw [bsF, if_neg (fun z => c42 z.1), if_neg (fun z => c68 z.1)]; done) | (rw [bsF, if_neg (fun z => c42 z.1), if_neg (fun z => z.2 c83)]; done) | (rw [bsF, if_neg (fun z => z.2 c51), if_pos ⟨c68, c83⟩]; done) | (rw [bsF, if_neg (fun z => z.2 c51), if_neg (fun z => c68 z.1)]; done) | (rw [bsF, if_neg (fun z => z.2 c51), if_neg (fun z => z.2 c83)]; done)) ?_
          refine j_istore2 hE dX11_runFrom_93 rfl ?_
          exact K94 ()
        · skip
          rw [hmw] at c83
          refine j_iload1 hE dX11_runFrom_86 ?_
          refine j_iconst hE (nI 1) dX11_runFrom_87 kiconst_1 ?_
          refine j_iadd hE dX11_runFrom_88 ?_
          refine j_goto hE 93 dX11_runFrom_89 (by decide) ?_
          refine j_top (y := bsF (S 119 29) x ww) (by first | (rw [bsF, if_pos ⟨c42, c51⟩]; done) | (rw [bsF, if_neg (fun z => c42 z.1), if_pos ⟨c68, c83⟩, ]; done) | (rw [bsF, if_neg (fun z => c42 z.1), if_neg (fun z => c68 z.1)]; done) | (rw [bsF, if_neg (fun z => c42 z.1), if_neg (fun z => z.2 c83)]; done) | (rw [bsF, if_neg (fun z => z.2 c51), if_pos ⟨c68, c83⟩]; done) | (rw [bsF, if_neg (fun z => z.2 c51), if_neg (fun z => c68 z.1)]; done) | (rw [bsF, if_neg (fun z => z.2 c51), if_neg (fun z => z.2 c83)]; done)) ?_
          refine j_istore2 hE dX11_runFrom_93 rfl ?_
          exact K94 ()
    · skip
      rw [mst_o (by decide) (by decide)] at c42
      refine j_iload1 hE dX11_runFrom_45 ?_
      refine j_aload0 hE dX11_runFrom_46 ?_
      refine j_geti hE fX11_75 dX11_runFrom_47 (by first | assumption | rfl) ?_
      refine j_irem hE dX11_runFrom_50 (by rw [hmw]; exact hwz) ?_
      refine j_ifle hE 60 dX11_runFrom_51 (by decide) (fun c51 => ?_) (fun c51 => ?_)
      · skip
        rw [hmw] at c51
        refine j_aload0 hE dX11_runFrom_60 ?_
        refine j_getr hE fX11_22 dX11_runFrom_61 (j := 119) (by first | assumption | rfl) (rfl) ?_
        refine j_bipush hE (nI 29) dX11_runFrom_64 kbipush_29 ?_
        refine j_ialdN hE dX11_runFrom_66 (by first | assumption | rfl) (by omega) (by decide) ?_
        refine j_iconst hE (nI 2) dX11_runFrom_67 kiconst_2 ?_
        refine j_icmpne hE 92 dX11_runFrom_68 (by decide) (fun c68 => ?_) (fun c68 => ?_)
        · skip
          rw [mst_o (by decide) (by decide)] at c68
          refine j_iconst hE (-1) dX11_runFrom_92 kiconst_m1 ?_
          refine j_top (y := bsF (S 119 29) x ww) (by first | (rw [bsF, if_pos ⟨c42, c51⟩]; done) | (rw [bsF, if_neg (fun z => c42 z.1), if_pos ⟨c68, c83⟩, ]; done) | (rw [bsF, if_neg (fun z => c42 z.1), if_neg (fun z => c68 z.1)]; done) | (rw [bsF, if_neg (fun z => c42 z.1), if_neg (fun z => z.2 c83)]; done) | (rw [bsF, if_neg (fun z => z.2 c51), if_pos ⟨c68, c83⟩]; done) | (rw [bsF, if_neg (fun z => z.2 c51), if_neg (fun z => c68 z.1)]; done) | (rw [bsF, if_neg (fun z => z.2 c51), if_neg (fun z => z.2 c83)]; done)) ?_
          refine j_istore2 hE dX11_runFrom_93 rfl ?_
          exact K94 ()
        · skip
          rw [mst_o (by decide) (by decide)] at c68
          refine j_iload1 hE dX11_runFrom_71 ?_
          refine j_aload0 hE dX11_runFrom_72 ?_
          refine j_geti hE fX11_75 dX11_runFrom_73 (by first | assumption | rfl) ?_
          refine j_irem hE dX11_runFrom_76 (by rw [hmw]; exact hwz) ?_
          refine j_aload0 hE dX11_runFrom_77 ?_
          refine j_geti hE fX11_75 dX11_runFrom_78 (by first | assumption | rfl) ?_
          refine j_iconst hE (nI 1) dX11_runFrom_81 kiconst_1 ?_
          refine j_isub hE dX11_runFrom_82 ?_
          refine j_icmpge hE 92 dX11_runFrom_83 (by decide) (fun c83 => ?_) (fun c83 => ?_)
          · skip
            rw [hmw] at c83
            refine j_iconst hE (-1) dX11_runFrom_92 kiconst_m1 ?_
            refine j_top (y := bsF (S 119 29) x ww) (by first | (rw [bsF, if_pos ⟨c42, c51⟩]; done) | (rw [bsF, if_neg (fun z => c42 z.1), if_pos ⟨c68, c83⟩, ]; done) | (rw [bsF, if_neg (fun z => c42 z.1), if_neg (fun z => c68 z.1)]; done) | (rw [bsF, if_neg (fun z => c42 z.1), if_neg (fun z => z.2 c83)]; done) | (rw [bsF, if_neg (fun z => z.2 c51), if_pos ⟨c68, c83⟩]; done) | (rw [bsF, if_neg (fun z => z.2 c51), if_neg (fun z => c68 z.1)]; done) | (rw [bsF, if_neg (fun z => z.2 c51), if_neg (fun z => z.2 c83)]; done)) ?_
            refine j_istore2 hE dX11_runFrom_93 rfl ?_
            exact K94 ()
          · skip
            rw [hmw] at c83
            refine j_iload1 hE dX11_runFrom_86 ?_
            refine j_iconst hE (nI 1) dX11_runFrom_87 kiconst_1 ?_
            refine j_iadd hE dX11_runFrom_88 ?_
            refine j_goto hE 93 dX11_runFrom_89 (by decide) ?_
            refine j_top (y := bsF (S 119 29) x ww) (by first | (rw [bsF, if_pos ⟨c42, c51⟩]; done) | (rw [bsF, if_neg (fun z => c42 z.1), if_pos ⟨c68, c83⟩, ]; done) | (rw [bsF, if_neg (fun z => c42 z.1), if_neg (fun z => c68 z.1)]; done) | (rw [bsF, if_neg (fun z => c42 z.1), if_neg (fun z => z.2 c83)]; done) | (rw [bsF, if_neg (fun z => z.2 c51), if_pos ⟨c68, c83⟩]; done) | (rw [bsF, if_neg (fun z => z.2 c51), if_neg (fun z => c68 z.1)]; done) | (rw [bsF, if_neg (fun z => z.2 c51), if_neg (fun z => z.2 c83)]; done)) ?_
            refine j_istore2 hE dX11_runFrom_93 rfl ?_
            exact K94 ()
      · skip
        rw [hmw] at c51
        refine j_iload1 hE dX11_runFrom_54 ?_
        refine j_iconst hE (nI 1) dX11_runFrom_55 kiconst_1 ?_
        refine j_isub hE dX11_runFrom_56 ?_
        refine j_goto hE 93 dX11_runFrom_57 (by decide) ?_
        refine j_top (y := bsF (S 119 29) x ww) (by first | (rw [bsF, if_pos ⟨c42, c51⟩]; done) | (rw [bsF, if_neg (fun z => c42 z.1), if_pos ⟨c68, c83⟩, ]; done) | (rw [bsF, if_neg (fun z => c42 z.1), if_neg (fun z => c68 z.1)]; done) | (rw [bsF, if_neg (fun z => c42 z.1), if_neg (fun z => z.2 c83)]; done) | (rw [bsF, if_neg (fun z => z.2 c51), if_pos ⟨c68, c83⟩]; done) | (rw [bsF, if_neg (fun z => z.2 c51), if_neg (fun z => c68 z.1)]; done) | (rw [bsF, if_neg (fun z => z.2 c51), if_neg (fun z => z.2 c83)]; done)) ?_
        refine j_istore2 hE dX11_runFrom_93 rfl ?_
        exact K94 ()
  refine j_iload1 hE dX11_runFrom_0 ?_
  refine j_aload0 hE dX11_runFrom_1 ?_
  refine j_geti hE fX11_75 dX11_runFrom_2 (by first | assumption | rfl) ?_
  refine j_iadd hE dX11_runFrom_5 ?_
  refine j_aload0 hE dX11_runFrom_6 ?_
  refine j_V0i hE mX11_78 (c_X11_cells l C hC _) dX11_runFrom_7 (by first | assumption | rfl) (by decide) (Nat.le_of_ble_eq_true rfl) ?_
  refine j_icmpge hE 34 dX11_runFrom_10 (by decide) (fun c10 => ?_) (fun c10 => ?_)
  · skip
    rw [hmw, hmc] at c10
    exact j_cast (by rw [mr1]; first | (rw [if_pos (Or.inl c10)]; done) | (rw [if_pos (Or.inr c20)]; done) | (rw [if_neg (fun z => z.elim c10 c20)]; done)) rfl (K34 ())
  · skip
    rw [hmw, hmc] at c10
    have c10b : x + ww < 25 := by
      rw [nI_add] at c10
      exact Nat.lt_of_lt_of_le (Nat.lt_of_not_le (fun q => c10 (nI_le q (by omega)))) hle
    refine j_aload0 hE dX11_runFrom_13 ?_
    refine j_getr hE fX11_44 dX11_runFrom_14 (j := 125) (by first | assumption | rfl) (rfl) ?_
    refine j_iload1 hE dX11_runFrom_17 ?_
    refine j_ialdN hE dX11_runFrom_18 (by first | assumption | rfl) (by omega) (by decide) ?_
    refine j_iconst hE (nI 2) dX11_runFrom_19 kiconst_2 ?_
    refine j_icmplt hE 34 dX11_runFrom_20 (by decide) (fun c20 => ?_) (fun c20 => ?_)
    · skip
      rw [mst_o (by decide) (by decide)] at c20
      exact j_cast (by rw [mr1]; first | (rw [if_pos (Or.inl c10)]; done) | (rw [if_pos (Or.inr c20)]; done) | (rw [if_neg (fun z => z.elim c10 c20)]; done)) rfl (K34 ())
    · skip
      rw [mst_o (by decide) (by decide)] at c20
      refine j_aload0 hE dX11_runFrom_23 ?_
      refine j_iload1 hE dX11_runFrom_24 ?_
      refine j_iload1 hE dX11_runFrom_25 ?_
      refine j_aload0 hE dX11_runFrom_26 ?_
      refine j_geti hE fX11_75 dX11_runFrom_27 (by first | assumption | rfl) ?_
      refine j_iadd hE dX11_runFrom_30 ?_
      refine j_top (y := nI (x + ww)) (by rw [hmw, nI_add]) ?_
      refine j_V2v hE mX11_254 (c_X11_give l C hC S _ x (x + ww) (by omega) c10b) dX11_runFrom_31 (by first | assumption | rfl) (by decide) (Nat.le_of_ble_eq_true rfl) ?_
      exact j_cast (by rw [mr1]; first | (rw [if_pos (Or.inl c10)]; done) | (rw [if_pos (Or.inr c20)]; done) | (rw [if_neg (fun z => z.elim c10 c20)]; done)) rfl (K34 ())

def mlW (f : Nat → Int32) (r : Int32) : Nat → Nat → Int32
  | 0 => f
  | n + 1 => upd (mlW f r n) (f (25 + n)).toNatClampNeg (boundF (mlW f r n (f (25 + n)).toNatClampNeg + r))
theorem mlW_hi {f : Nat → Int32} {r : Int32} {m k : Nat} (hk : 25 ≤ k) : ∀ n, n ≤ m → (∀ c, c < m → ∃ a, a < 25 ∧ f (25 + c) = nI a) → mlW f r n k = f k
  | 0, _, _ => rfl
  | n + 1, hn, h => by
    obtain ⟨a, ha, e⟩ := h n (by omega)
    rw [mlW, e, nI_clamp (by omega), pk_un (by omega), mlW_hi hk n (by omega) h]
/-- had, left, comes are laid for the first i cells -/
def mcp (A : Sto) (i : Nat) : Sto := fun j => if j = 125 then cpN i (A 119) (A 125) else if j = 127 then cpN i (A 119) (A 127) else if j = 126 then cpN i (fun _ => nI 0) (A 126) else A j
theorem mcp_0 (A : Sto) : mcp A 0 = A := by
  funext j
  unfold mcp
  rw [cpN_0, cpN_0, cpN_0]
  by_cases h1 : j = 125
  · subst h1; simp
  · by_cases h2 : j = 127
    · subst h2; simp
    · by_cases h3 : j = 126
      · subst h3; simp
      · simp [h1, h2, h3]
theorem mcp_o {A : Sto} {i j : Nat} (h1 : j ≠ 125) (h2 : j ≠ 127) (h3 : j ≠ 126) : mcp A i j = A j := by
  unfold mcp
  rw [if_neg h1, if_neg h2, if_neg h3]
theorem mcp_s (A : Sto) (i : Nat) : up2 (up2 (up2 (mcp A i) 125 i (A 119 i)) 127 i (A 119 i)) 126 i (nI 0) = mcp A (i + 1) := by
  funext j
  have e1 := cpN_s (A 119) (A 125) i
  have e2 := cpN_s (A 119) (A 127) i
  have e3 := cpN_s (fun _ => nI 0) (A 126) i
  unfold up2 upA mcp
  by_cases h1 : j = 125
  · subst h1; simpa using e1
  · by_cases h2 : j = 127
    · subst h2; simpa using e2
    · by_cases h3 : j = 126
      · subst h3; simpa using e3
      · simp [h1, h2, h3]
def mrN (S : Sto) (nn ww nc : Nat) (p : Pr2) : Nat → Pr2
  | 0 => p
  | x + 1 => mr3 S nn ww x (mrN S nn ww nc p x) nc
def mstl (r : Int32) (l c : Int32) : Int32 := if r = 0 then boundF (boundF (l + c) - nI 1) else boundF (l + c)
def msW (D : Sto) (r : Int32) (n : Nat) : Nat → Int32 := cpN n (fun j => mstl r (D 127 j) (D 126 j)) (D 119)
def passA (S : Sto) (nl : Nat) (r : Int32) : Sto := upA S 119 (mlW (S 119) r nl)
def passD (S : Sto) (nn ww nl nc : Nat) (r : Int32) : Sto := let B := mcp (passA S nl r) nn; mst B (mrN B nn ww nc (B 127, B 126) nn)
def passS (S : Sto) (nn ww nl nc : Nat) (r : Int32) : Sto := let F := upA (passD S nn ww nl nc r) 119 (msW (passD S nn ww nl nc r) r nn); up2 F 119 31 (F 119 31 + nI 1)
theorem passA_o {S : Sto} {nl : Nat} {r : Int32} {i : Nat} (h : i ≠ 119) : passA S nl r i = S i := upA_ne _ _ h
theorem passD_o {S : Sto} {nn ww nl nc : Nat} {r : Int32} {i : Nat} (h : i < 119 ∨ (119 < i ∧ i < 125) ∨ 127 < i) : passD S nn ww nl nc r i = S i := by
  unfold passD
  rw [mst_o (by omega) (by omega), mcp_o (by omega) (by omega) (by omega), passA_o (by omega)]
theorem pass_o {S : Sto} {nn ww nl nc : Nat} {r : Int32} {i : Nat} (h : i < 119 ∨ (119 < i ∧ i < 125) ∨ 127 < i) : passS S nn ww nl nc r i = S i := by
  unfold passS
  rw [up2_ne _ _ _ (by omega), upA_ne _ _ (by omega), passD_o h]
theorem fa_uu (f : Nat → Int32) (i : Nat) (x y : Int32) : upd (upd f i x) i y = upd f i y := by
  funext j
  unfold upd
  by_cases h : j = i <;> simp [h]
theorem msW_t {D : Sto} {r : Int32} {i : Nat} (h : r = 0) : up2 (up2 (upA D 119 (msW D r i)) 119 i (boundF (D 127 i + D 126 i))) 119 i (boundF (boundF (D 127 i + D 126 i) - nI 1)) = upA D 119 (msW D r (i + 1)) := by
  rw [up2_upA, up2_upA, fa_uu, show boundF (boundF (D 127 i + D 126 i) - nI 1) = (fun j => mstl r (D 127 j) (D 126 j)) i by simp [mstl, h]]
  unfold msW
  rw [cpN_s]
theorem msW_f {D : Sto} {r : Int32} {i : Nat} (h : ¬ r = 0) : up2 (up2 (upA D 119 (msW D r i)) 119 i (boundF (D 127 i + D 126 i))) 119 i (boundF (D 127 i + D 126 i)) = upA D 119 (msW D r (i + 1)) := by
  rw [up2_upA, up2_upA, fa_uu, show boundF (D 127 i + D 126 i) = (fun j => mstl r (D 127 j) (D 126 j)) i by simp [mstl, h]]
  unfold msW
  rw [cpN_s]
set_option maxHeartbeats 4000000 in
set_option maxRecDepth 100000 in
theorem c_X11_pass (l : Launch) (C : JC) (hC : JInj C) (S : Sto) (hh : Nat) (ww : Nat) (hww : S 114 1 = nI ww) (hw0 : 0 < ww) (hw5 : ww ≤ 5) (nn : Nat) (hnw : nn = hh * ww) (hnn : mcl S = nI nn) (hle : nn ≤ 25) (nl : Nat) (hnl : S 114 2 = nI nl) (hll : nl ≤ 4) (hlk : ∀ c, c < nl → ∃ a, a < 25 ∧ S 119 (25 + c) = nI a) (nc : Nat) (hnc : S 114 4 = nI nc) (hcl : nc ≤ 6) (hca : ∀ c, c < nc → ∃ a, a < 25 ∧ S 116 c = nI a) (hcb : ∀ c, c < nc → ∃ b, b < 25 ∧ S 117 c = nI b) (r : Int32) : Con l C yX11_pass cX11_pass 4 none 3 [.ref (C.2.1 114), .int r] S none (passS S nn ww nl nc r) := by
  have hA : ∀ i, mcl (upA S 119 i) = nI nn := fun i => by unfold mcl; rw [upA_ne _ _ (by decide)]; exact hnn
  have hB : ∀ i, mcl (mcp (passA S nl r) i) = nI nn := fun i => by unfold mcl; rw [mcp_o (by decide) (by decide) (by decide)]; exact hA _
  have hD : ∀ q, mcl (mst (mcp (passA S nl r) nn) q) = nI nn := fun q => by unfold mcl; rw [mst_o (by decide) (by decide)]; exact hB _
  have hF : ∀ f, mcl (upA (passD S nn ww nl nc r) 119 f) = nI nn := fun f => by unfold mcl; rw [upA_ne _ _ (by decide)]; exact hD _
  refine con_of RX11 2 [some (.ref (C.2.1 114)), some (.int r), none, none] (by decide) rfl hC (Nat.le_of_ble_eq_true rfl) rfl (Nat.le_of_ble_eq_true rfl) (fun E hE hR => ?_)
  have K111 : ∀ (D : Sto) (b3 : Option Value), (∀ f, mcl (upA D 119 f) = nI nn) → (D = passD S nn ww nl nc r) → J C E D 111 [some (.ref (C.2.1 114)), some (.int r), some (.int (nI nn)), b3] [] := by
    intro D b3 hG hD0
    refine j_iconst hE (nI 0) dX11_pass_111 kiconst_0 ?_
    refine j_istore2 hE dX11_pass_112 rfl ?_
    have L113 : ∀ (fu : Nat) (i : Nat) (x3 : Option Value), nn - i < fu → (i ≤ nn) → J C E (upA D 119 (msW D r i)) 113 [some (.ref (C.2.1 114)), some (.int r), some (.int (nI i)), x3] [] := by
      intro fu
      induction fu with
      | zero => intro i x3 hm; omega
      | succ fu ih =>
        intro i x3 hm hi
        refine j_iload2 hE dX11_pass_113 ?_
        refine j_aload0 hE dX11_pass_114 ?_
        refine j_V0i hE mX11_78 (c_X11_cells l C hC _) dX11_pass_115 (by first | assumption | rfl) (by decide) (Nat.le_of_ble_eq_true rfl) ?_
        refine j_icmpge hE 179 dX11_pass_118 (by decide) (fun c118 => ?_) (fun c118 => ?_)
        · skip
          rw [hG] at c118
          have c118 := (nI_leI (by omega) (by omega)).mp c118
          have hii : nn = i := by omega
          subst hii
          refine j_aload0 hE dX11_pass_179 ?_
          refine j_getr hE fX11_22 dX11_pass_180 (j := 119) (by first | assumption | rfl) (rfl) ?_
          refine j_bipush hE (nI 31) dX11_pass_183 kbipush_31 ?_
          refine j_dup2 hE dX11_pass_185 rfl rfl ?_
          refine j_ialdN hE dX11_pass_186 (by first | assumption | rfl) (by omega) (by decide) ?_
          refine j_iconst hE (nI 1) dX11_pass_187 kiconst_1 ?_
          refine j_iadd hE dX11_pass_188 ?_
          refine j_iastN hE dX11_pass_189 (by first | assumption | rfl) (by omega) (by decide) ?_
          exact j_vret hE hR dX11_pass_190 (by subst hD0; rfl)
        · skip
          rw [hG] at c118
          have c118 : i < nn := Nat.lt_of_not_le (fun q => c118 (nI_le q (by omega)))
          refine j_aload0 hE dX11_pass_121 ?_
          refine j_getr hE fX11_22 dX11_pass_122 (j := 119) (by first | assumption | rfl) (rfl) ?_
          refine j_iload2 hE dX11_pass_125 ?_
          refine j_aload0 hE dX11_pass_126 ?_
          refine j_getr hE fX11_50 dX11_pass_127 (j := 127) (by first | assumption | rfl) (rfl) ?_
          refine j_iload2 hE dX11_pass_130 ?_
          refine j_ialdN hE dX11_pass_131 (by first | assumption | rfl) (by omega) (by decide) ?_
          refine j_aload0 hE dX11_pass_132 ?_
          refine j_getr hE fX11_47 dX11_pass_133 (j := 126) (by first | assumption | rfl) (rfl) ?_
          refine j_iload2 hE dX11_pass_136 ?_
          refine j_ialdN hE dX11_pass_137 (by first | assumption | rfl) (by omega) (by decide) ?_
          refine j_iadd hE dX11_pass_138 ?_
          refine j_S1i hE mX11_258 (c_X11_bound l C hC _ _) dX11_pass_139 (by decide) (Nat.le_of_ble_eq_true rfl) ?_
          refine j_top (y := boundF (D 127 i + D 126 i)) (by rw [upA_ne _ _ (by decide), upA_ne _ _ (by decide)]) ?_
          refine j_iastN hE dX11_pass_142 (by first | assumption | rfl) (by omega) (by decide) ?_
          refine j_aload0 hE dX11_pass_143 ?_
          refine j_getr hE fX11_22 dX11_pass_144 (j := 119) (by first | assumption | rfl) (rfl) ?_
          refine j_iload2 hE dX11_pass_147 ?_
          refine j_iload1 hE dX11_pass_148 ?_
          refine j_ifne hE 166 dX11_pass_149 (by decide) (fun c149 => ?_) (fun c149 => ?_)
          · skip
            refine j_aload0 hE dX11_pass_166 ?_
            refine j_getr hE fX11_22 dX11_pass_167 (j := 119) (by first | assumption | rfl) (rfl) ?_
            refine j_iload2 hE dX11_pass_170 ?_
            refine j_ialdN hE dX11_pass_171 (by first | assumption | rfl) (by omega) (by decide) ?_
            refine j_top (y := boundF (D 127 i + D 126 i)) (by rw [up2_same, pk_us]) ?_
            refine j_iastN hE dX11_pass_172 (by first | assumption | rfl) (by omega) (by decide) ?_
            refine j_iinc2 hE (nI (i + 1)) dX11_pass_173 (nI_inc _) rfl ?_
            refine j_goto hE 113 dX11_pass_176 (by decide) ?_
            exact j_cast (by first | (have h : r = 0 := c149; exact msW_t h) | (have h : ¬ r = 0 := c149; exact msW_f h)) rfl (ih (i + 1) _ (by omega) (by omega))
          · skip
            refine j_aload0 hE dX11_pass_152 ?_
            refine j_getr hE fX11_22 dX11_pass_153 (j := 119) (by first | assumption | rfl) (rfl) ?_
            refine j_iload2 hE dX11_pass_156 ?_
            refine j_ialdN hE dX11_pass_157 (by first | assumption | rfl) (by omega) (by decide) ?_
            refine j_iconst hE (nI 1) dX11_pass_158 kiconst_1 ?_
            refine j_isub hE dX11_pass_159 ?_
            refine j_S1i hE mX11_258 (c_X11_bound l C hC _ _) dX11_pass_160 (by decide) (Nat.le_of_ble_eq_true rfl) ?_
            refine j_goto hE 172 dX11_pass_163 (by decide) ?_
            refine j_top (y := boundF (boundF (D 127 i + D 126 i) - nI 1)) (by rw [up2_same, pk_us]) ?_
            refine j_iastN hE dX11_pass_172 (by first | assumption | rfl) (by omega) (by decide) ?_
            refine j_iinc2 hE (nI (i + 1)) dX11_pass_173 (nI_inc _) rfl ?_
            refine j_goto hE 113 dX11_pass_176 (by decide) ?_
            exact j_cast (by first | (have h : r = 0 := c149; exact msW_t h) | (have h : ¬ r = 0 := c149; exact msW_f h)) rfl (ih (i + 1) _ (by omega) (by omega))
    exact j_cast (by unfold msW; rw [cpN_0, upA_self]) rfl (L113 (nn + 1) 0 _ (by omega) (by omega))
  refine j_iconst hE (nI 0) dX11_pass_0 kiconst_0 ?_
  refine j_istore2 hE dX11_pass_1 rfl ?_
  have L2 : ∀ (fu : Nat) (i : Nat) (x3 : Option Value), nl - i < fu → (i ≤ nl) → J C E (upA S 119 (mlW (S 119) r i)) 2 [some (.ref (C.2.1 114)), some (.int r), some (.int (nI i)), x3] [] := by
    intro fu
    induction fu with
    | zero => intro i x3 hm; omega
    | succ fu ih =>
      intro i x3 hm hi
      refine j_iload2 hE dX11_pass_2 ?_
      refine j_aload0 hE dX11_pass_3 ?_
      refine j_geti hE fX11_86 dX11_pass_4 (by first | assumption | rfl) ?_
      refine j_icmpge hE 43 dX11_pass_7 (by decide) (fun c7 => ?_) (fun c7 => ?_)
      · skip
        rw [upA_ne _ _ (by decide)] at c7
        rw [hnl] at c7
        have c7 := (nI_leI (by omega) (by omega)).mp c7
        have hii : nl = i := by omega
        subst hii
        refine j_iconst hE (nI 0) dX11_pass_43 kiconst_0 ?_
        refine j_istore2 hE dX11_pass_44 rfl ?_
        have L45 : ∀ (fu : Nat) (i : Nat) (x3 : Option Value), nn - i < fu → (i ≤ nn) → J C E (mcp (passA S nl r) i) 45 [some (.ref (C.2.1 114)), some (.int r), some (.int (nI i)), x3] [] := by
          intro fu
          induction fu with
          | zero => intro i x3 hm; omega
          | succ fu ih_ =>
            intro i x3 hm hi
            refine j_iload2 hE dX11_pass_45 ?_
            refine j_aload0 hE dX11_pass_46 ?_
            refine j_V0i hE mX11_78 (c_X11_cells l C hC _) dX11_pass_47 (by first | assumption | rfl) (by decide) (Nat.le_of_ble_eq_true rfl) ?_
            refine j_icmpge hE 90 dX11_pass_50 (by decide) (fun c50 => ?_) (fun c50 => ?_)
            · skip
              rw [hB] at c50
              have c50 := (nI_leI (by omega) (by omega)).mp c50
              have hii : nn = i := by omega
              subst hii
              refine j_iconst hE (nI 0) dX11_pass_90 kiconst_0 ?_
              refine j_istore2 hE dX11_pass_91 rfl ?_
              have L92 : ∀ (fu : Nat) (i : Nat) (x3 : Option Value), nn - i < fu → (i ≤ nn) → J C E (mst (mcp (passA S nl r) nn) (mrN (mcp (passA S nl r) nn) nn ww nc (mcp (passA S nl r) nn 127, mcp (passA S nl r) nn 126) i)) 92 [some (.ref (C.2.1 114)), some (.int r), some (.int (nI i)), x3] [] := by
                intro fu
                induction fu with
                | zero => intro i x3 hm; omega
                | succ fu ih_ =>
                  intro i x3 hm hi
                  refine j_iload2 hE dX11_pass_92 ?_
                  refine j_aload0 hE dX11_pass_93 ?_
                  refine j_V0i hE mX11_78 (c_X11_cells l C hC _) dX11_pass_94 (by first | assumption | rfl) (by decide) (Nat.le_of_ble_eq_true rfl) ?_
                  refine j_icmpge hE 111 dX11_pass_97 (by decide) (fun c97 => ?_) (fun c97 => ?_)
                  · skip
                    rw [hD] at c97
                    have c97 := (nI_leI (by omega) (by omega)).mp c97
                    have hii : nn = i := by omega
                    subst hii
                    exact K111 _ _ hF rfl
                  · skip
                    rw [hD] at c97
                    have c97 : i < nn := Nat.lt_of_not_le (fun q => c97 (nI_le q (by omega)))
                    refine j_aload0 hE dX11_pass_100 ?_
                    refine j_iload2 hE dX11_pass_101 ?_
                    refine j_V1v hE mX11_261 (c_X11_runFrom l C hC (mcp (passA S nl r) nn) hh ww (by rw [mcp_o (by decide) (by decide) (by decide), passA_o (by decide)]; exact hww) hw0 hw5 nn hnw (hB nn) hle nc (by rw [mcp_o (by decide) (by decide) (by decide), passA_o (by decide)]; exact hnc) hcl (by rw [mcp_o (by decide) (by decide) (by decide), passA_o (by decide)]; exact hca) (by rw [mcp_o (by decide) (by decide) (by decide), passA_o (by decide)]; exact hcb) _ i c97) dX11_pass_102 (by first | assumption | rfl) (by decide) (Nat.le_of_ble_eq_true rfl) ?_
                    refine j_iinc2 hE (nI (i + 1)) dX11_pass_105 (nI_inc _) rfl ?_
                    refine j_goto hE 92 dX11_pass_108 (by decide) ?_
                    exact ih_ (i + 1) _ (by omega) (by omega)
              exact j_cast (mst_self _).symm rfl (L92 (nn + 1) 0 _ (by omega) (by omega))
            · skip
              rw [hB] at c50
              have c50 : i < nn := Nat.lt_of_not_le (fun q => c50 (nI_le q (by omega)))
              refine j_aload0 hE dX11_pass_53 ?_
              refine j_getr hE fX11_44 dX11_pass_54 (j := 125) (by first | assumption | rfl) (rfl) ?_
              refine j_iload2 hE dX11_pass_57 ?_
              refine j_aload0 hE dX11_pass_58 ?_
              refine j_getr hE fX11_22 dX11_pass_59 (j := 119) (by first | assumption | rfl) (rfl) ?_
              refine j_iload2 hE dX11_pass_62 ?_
              refine j_ialdN hE dX11_pass_63 (by first | assumption | rfl) (by omega) (by decide) ?_
              refine j_iastN hE dX11_pass_64 (by first | assumption | rfl) (by omega) (by decide) ?_
              refine j_aload0 hE dX11_pass_65 ?_
              refine j_getr hE fX11_50 dX11_pass_66 (j := 127) (by first | assumption | rfl) (rfl) ?_
              refine j_iload2 hE dX11_pass_69 ?_
              refine j_aload0 hE dX11_pass_70 ?_
              refine j_getr hE fX11_22 dX11_pass_71 (j := 119) (by first | assumption | rfl) (rfl) ?_
              refine j_iload2 hE dX11_pass_74 ?_
              refine j_ialdN hE dX11_pass_75 (by first | assumption | rfl) (by omega) (by decide) ?_
              refine j_iastN hE dX11_pass_76 (by first | assumption | rfl) (by omega) (by decide) ?_
              refine j_aload0 hE dX11_pass_77 ?_
              refine j_getr hE fX11_47 dX11_pass_78 (j := 126) (by first | assumption | rfl) (rfl) ?_
              refine j_iload2 hE dX11_pass_81 ?_
              refine j_iconst hE (nI 0) dX11_pass_82 kiconst_0 ?_
              refine j_iastN hE dX11_pass_83 (by first | assumption | rfl) (by omega) (by decide) ?_
              refine j_iinc2 hE (nI (i + 1)) dX11_pass_84 (nI_inc _) rfl ?_
              refine j_goto hE 45 dX11_pass_87 (by decide) ?_
              exact j_cast (by rw [← mcp_s]; rfl) rfl (ih_ (i + 1) _ (by omega) (by omega))
        exact j_cast (mcp_0 _).symm rfl (L45 (nn + 1) 0 _ (by omega) (by omega))
      · skip
        rw [upA_ne _ _ (by decide)] at c7
        rw [hnl] at c7
        have c7 : i < nl := Nat.lt_of_not_le (fun q => c7 (nI_le q (by omega)))
        refine j_aload0 hE dX11_pass_10 ?_
        refine j_getr hE fX11_22 dX11_pass_11 (j := 119) (by first | assumption | rfl) (rfl) ?_
        refine j_bipush hE (nI 25) dX11_pass_14 kbipush_25 ?_
        refine j_iload2 hE dX11_pass_16 ?_
        refine j_iadd hE dX11_pass_17 ?_
        refine j_top (nI_add 25 i) ?_
        refine j_ialdN hE dX11_pass_18 (by first | assumption | rfl) (by omega) (by decide) ?_
        obtain ⟨a, ha, he⟩ := hlk i c7
        refine j_top (y := nI a) (by rw [upA_same, mlW_hi (m := nl) (by omega) i (by omega) hlk]; exact he) ?_
        refine j_istore3 hE dX11_pass_19 rfl ?_
        refine j_aload0 hE dX11_pass_20 ?_
        refine j_getr hE fX11_22 dX11_pass_21 (j := 119) (by first | assumption | rfl) (rfl) ?_
        refine j_iload3 hE dX11_pass_24 ?_
        refine j_aload0 hE dX11_pass_25 ?_
        refine j_getr hE fX11_22 dX11_pass_26 (j := 119) (by first | assumption | rfl) (rfl) ?_
        refine j_iload3 hE dX11_pass_29 ?_
        refine j_ialdN hE dX11_pass_30 (by first | assumption | rfl) (by omega) (by decide) ?_
        refine j_iload1 hE dX11_pass_31 ?_
        refine j_iadd hE dX11_pass_32 ?_
        refine j_S1i hE mX11_258 (c_X11_bound l C hC _ _) dX11_pass_33 (by decide) (Nat.le_of_ble_eq_true rfl) ?_
        refine j_iastN hE dX11_pass_36 (by first | assumption | rfl) (by omega) (by decide) ?_
        refine j_iinc2 hE (nI (i + 1)) dX11_pass_37 (nI_inc _) rfl ?_
        refine j_goto hE 2 dX11_pass_40 (by decide) ?_
        exact j_cast (by rw [up2_upA, upA_same, mlW, he, nI_clamp (by omega)]) rfl (ih (i + 1) _ (by omega) (by omega))
  exact j_cast (upA_self S 119).symm rfl (L2 (nl + 1) 0 none (by omega) (by omega))

def mshy (S : Sto) (nn x : Nat) : Prop := hasM (mshF (S 119) nn) (nI x) ∧ ¬ nI 2 ≤ bitsF (arF (S 114 1) (nI x) nn &&& mshF (S 119) nn) 25
def mlkV (S : Sto) (nn : Nat) (x : Nat) : Int32 := if hasM (mshF (S 119) nn) (nI x) ∧ ¬ nI 2 ≤ bitsF (arF (S 114 1) (nI x) nn &&& mshF (S 119) nn) 25 then boundF (S 119 x - nI 2) else S 119 x
def mlkW (S : Sto) (nn n : Nat) : Nat → Int32 := cpN n (mlkV S nn) (S 119)
def mlookS (S : Sto) (nn : Nat) : Sto := let F := upA S 119 (mlkW S nn nn); up2 F 119 32 (F 119 32 + nI 1)
theorem mlook_o {S : Sto} {nn i : Nat} (h : i ≠ 119) : mlookS S nn i = S i := by
  unfold mlookS
  rw [up2_ne _ _ _ h, upA_ne _ _ h]
theorem mlkW_i {S : Sto} {nn i : Nat} : mlkW S nn i i = S 119 i := by
  unfold mlkW cpN
  rw [if_neg (by omega)]
theorem mlkS {S : Sto} {nn i : Nat} {v : Int32} (h : v = mlkV S nn i) : up2 (upA S 119 (mlkW S nn i)) 119 i v = upA S 119 (mlkW S nn (i + 1)) := by
  rw [up2_upA, h]
  unfold mlkW
  rw [cpN_s]
set_option maxHeartbeats 4000000 in
set_option maxRecDepth 100000 in
theorem c_X11_lookNow (l : Launch) (C : JC) (hC : JInj C) (S : Sto) (nn : Nat) (hnn : mcl S = nI nn) (hle : nn ≤ 25) (hw : nn ≠ 0 → ¬ S 114 1 = 0)  : Con l C yX11_lookNow cX11_lookNow 4 none 4 [.ref (C.2.1 114)] S none (mlookS S nn) := by
  have hA : ∀ f, mcl (upA S 119 f) = nI nn := fun f => by unfold mcl; rw [upA_ne _ _ (by decide)]; exact hnn
  refine con_of RX11 3 [some (.ref (C.2.1 114)), none, none, none] (by decide) rfl hC (Nat.le_of_ble_eq_true rfl) rfl (Nat.le_of_ble_eq_true rfl) (fun E hE hR => ?_)
  refine j_aload0 hE dX11_lookNow_0 ?_
  refine j_V0i hE mX11_204 (c_X11_shows l C hC _ nn hnn hle) dX11_lookNow_1 (by first | assumption | rfl) (by decide) (Nat.le_of_ble_eq_true rfl) ?_
  refine j_istore1 hE dX11_lookNow_4 rfl ?_
  refine j_iconst hE (nI 0) dX11_lookNow_5 kiconst_0 ?_
  refine j_istore2 hE dX11_lookNow_6 rfl ?_
  have L7 : ∀ (fu : Nat) (i : Nat) (x3 : Option Value), nn - i < fu → (i ≤ nn) → J C E (upA S 119 (mlkW S nn i)) 7 [some (.ref (C.2.1 114)), some (.int (mshF (S 119) nn)), some (.int (nI i)), x3] [] := by
    intro fu
    induction fu with
    | zero => intro i x3 hm; omega
    | succ fu ih =>
      intro i x3 hm hi
      refine j_iload2 hE dX11_lookNow_7 ?_
      refine j_aload0 hE dX11_lookNow_8 ?_
      refine j_V0i hE mX11_78 (c_X11_cells l C hC _) dX11_lookNow_9 (by first | assumption | rfl) (by decide) (Nat.le_of_ble_eq_true rfl) ?_
      refine j_icmpge hE 79 dX11_lookNow_12 (by decide) (fun c12 => ?_) (fun c12 => ?_)
      · skip
        rw [hA] at c12
        have c12 := (nI_leI (by omega) (by omega)).mp c12
        have hii : i = nn := by omega
        subst hii
        refine j_aload0 hE dX11_lookNow_79 ?_
        refine j_getr hE fX11_22 dX11_lookNow_80 (j := 119) (by first | assumption | rfl) (rfl) ?_
        refine j_bipush hE (nI 32) dX11_lookNow_83 kbipush_32 ?_
        refine j_dup2 hE dX11_lookNow_85 rfl rfl ?_
        refine j_ialdN hE dX11_lookNow_86 (by first | assumption | rfl) (by omega) (by decide) ?_
        refine j_iconst hE (nI 1) dX11_lookNow_87 kiconst_1 ?_
        refine j_iadd hE dX11_lookNow_88 ?_
        refine j_iastN hE dX11_lookNow_89 (by first | assumption | rfl) (by omega) (by decide) ?_
        exact j_vret hE hR dX11_lookNow_90 (rfl)
      · skip
        rw [hA] at c12
        have c12 : i < nn := Nat.lt_of_not_le (fun q => c12 (nI_le q (by omega)))
        refine j_iload1 hE dX11_lookNow_15 ?_
        refine j_iload2 hE dX11_lookNow_16 ?_
        refine j_S2i hE mX11_213 (c_X11_has l C hC _ _ _) dX11_lookNow_17 (by decide) (Nat.le_of_ble_eq_true rfl) ?_
        first | refine j_ifeqP hE 41 dX11_lookNow_20 (by decide) (fun c20 => ?_) (fun c20 => ?_) | refine j_ifeq hE 41 dX11_lookNow_20 (by decide) (fun c20 => ?_) (fun c20 => ?_)
        · skip
          refine j_iconst hE (nI 0) dX11_lookNow_41 kiconst_0 ?_
          refine j_istore3 hE dX11_lookNow_42 rfl ?_
          refine j_aload0 hE dX11_lookNow_43 ?_
          refine j_getr hE fX11_22 dX11_lookNow_44 (j := 119) (by first | assumption | rfl) (rfl) ?_
          refine j_iload2 hE dX11_lookNow_47 ?_
          refine j_iload3 hE dX11_lookNow_48 ?_
          refine j_ifeq hE 66 dX11_lookNow_49 (by decide) (fun c49 => ?_) (fun c49 => ?_)
          · skip
            refine j_aload0 hE dX11_lookNow_66 ?_
            refine j_getr hE fX11_22 dX11_lookNow_67 (j := 119) (by first | assumption | rfl) (rfl) ?_
            refine j_iload2 hE dX11_lookNow_70 ?_
            refine j_ialdN hE dX11_lookNow_71 (by first | assumption | rfl) (by omega) (by decide) ?_
            refine j_iastN hE dX11_lookNow_72 (by first | assumption | rfl) (by omega) (by decide) ?_
            refine j_iinc2 hE (nI (i + 1)) dX11_lookNow_73 (nI_inc _) rfl ?_
            refine j_goto hE 7 dX11_lookNow_76 (by decide) ?_
            exact j_cast (mlkS (by rw [upA_same, mlkW_i, mlkV]; first | (rw [if_pos ⟨c20, c34⟩]; done) | (rw [if_neg (fun z => c20 z.1)]; done) | (rw [if_neg (fun z => z.2 c34)]; done))) rfl (ih (i + 1) _ (by omega) (by omega))
          · skip
            exact absurd rfl c49
        · skip
          refine j_aload0 hE dX11_lookNow_23 ?_
          refine j_iload2 hE dX11_lookNow_24 ?_
          refine j_V1i hE mX11_216 (c_X11_around l C hC _ nn (hA _) hle (fun z => by rw [upA_ne _ _ (by decide)]; exact hw z) _) dX11_lookNow_25 (by first | assumption | rfl) (by decide) (Nat.le_of_ble_eq_true rfl) ?_
          refine j_top (y := arF (S 114 1) (nI i) nn) (by rw [upA_ne _ _ (by decide)]) ?_
          refine j_iload1 hE dX11_lookNow_28 ?_
          refine j_iand hE dX11_lookNow_29 ?_
          refine j_S1i hE mX11_207 (c_X11_bits l C hC _ _) dX11_lookNow_30 (by decide) (Nat.le_of_ble_eq_true rfl) ?_
          refine j_iconst hE (nI 2) dX11_lookNow_33 kiconst_2 ?_
          refine j_icmpge hE 41 dX11_lookNow_34 (by decide) (fun c34 => ?_) (fun c34 => ?_)
          · skip
            refine j_iconst hE (nI 0) dX11_lookNow_41 kiconst_0 ?_
            refine j_istore3 hE dX11_lookNow_42 rfl ?_
            refine j_aload0 hE dX11_lookNow_43 ?_
            refine j_getr hE fX11_22 dX11_lookNow_44 (j := 119) (by first | assumption | rfl) (rfl) ?_
            refine j_iload2 hE dX11_lookNow_47 ?_
            refine j_iload3 hE dX11_lookNow_48 ?_
            refine j_ifeq hE 66 dX11_lookNow_49 (by decide) (fun c49 => ?_) (fun c49 => ?_)
            · skip
              refine j_aload0 hE dX11_lookNow_66 ?_
              refine j_getr hE fX11_22 dX11_lookNow_67 (j := 119) (by first | assumption | rfl) (rfl) ?_
              refine j_iload2 hE dX11_lookNow_70 ?_
              refine j_ialdN hE dX11_lookNow_71 (by first | assumption | rfl) (by omega) (by decide) ?_
              refine j_iastN hE dX11_lookNow_72 (by first | assumption | rfl) (by omega) (by decide) ?_
              refine j_iinc2 hE (nI (i + 1)) dX11_lookNow_73 (nI_inc _) rfl ?_
              refine j_goto hE 7 dX11_lookNow_76 (by decide) ?_
              exact j_cast (mlkS (by rw [upA_same, mlkW_i, mlkV]; first | (rw [if_pos ⟨c20, c34⟩]; done) | (rw [if_neg (fun z => c20 z.1)]; done) | (rw [if_neg (fun z => z.2 c34)]; done))) rfl (ih (i + 1) _ (by omega) (by omega))
            · skip
              exact absurd rfl c49
          · skip
            refine j_iconst hE (nI 1) dX11_lookNow_37 kiconst_1 ?_
            refine j_goto hE 42 dX11_lookNow_38 (by decide) ?_
            refine j_istore3 hE dX11_lookNow_42 rfl ?_
            refine j_aload0 hE dX11_lookNow_43 ?_
            refine j_getr hE fX11_22 dX11_lookNow_44 (j := 119) (by first | assumption | rfl) (rfl) ?_
            refine j_iload2 hE dX11_lookNow_47 ?_
            refine j_iload3 hE dX11_lookNow_48 ?_
            refine j_ifeq hE 66 dX11_lookNow_49 (by decide) (fun c49 => ?_) (fun c49 => ?_)
            · skip
              exact absurd c49 (by decide)
            · skip
              refine j_aload0 hE dX11_lookNow_52 ?_
              refine j_getr hE fX11_22 dX11_lookNow_53 (j := 119) (by first | assumption | rfl) (rfl) ?_
              refine j_iload2 hE dX11_lookNow_56 ?_
              refine j_ialdN hE dX11_lookNow_57 (by first | assumption | rfl) (by omega) (by decide) ?_
              refine j_iconst hE (nI 2) dX11_lookNow_58 kiconst_2 ?_
              refine j_isub hE dX11_lookNow_59 ?_
              refine j_S1i hE mX11_258 (c_X11_bound l C hC _ _) dX11_lookNow_60 (by decide) (Nat.le_of_ble_eq_true rfl) ?_
              refine j_goto hE 72 dX11_lookNow_63 (by decide) ?_
              refine j_iastN hE dX11_lookNow_72 (by first | assumption | rfl) (by omega) (by decide) ?_
              refine j_iinc2 hE (nI (i + 1)) dX11_lookNow_73 (nI_inc _) rfl ?_
              refine j_goto hE 7 dX11_lookNow_76 (by decide) ?_
              exact j_cast (mlkS (by rw [upA_same, mlkW_i, mlkV]; first | (rw [if_pos ⟨c20, c34⟩]; done) | (rw [if_neg (fun z => c20 z.1)]; done) | (rw [if_neg (fun z => z.2 c34)]; done))) rfl (ih (i + 1) _ (by omega) (by omega))
  exact j_cast (by unfold mlkW; rw [cpN_0, upA_self]) rfl (L7 (nn + 1) 0 none (by omega) (by omega))

/-- the past: the oldest goes when it is full -/
def mshW (f : Nat → Int32) (i : Nat) : Nat → Int32 := fun j => if j + 34 < i then f (j + 34) else f j
theorem mshW_s (f : Nat → Int32) {i : Nat} (h : 34 ≤ i) : upd (mshW f i) (i - 34) (mshW f i i) = mshW f (i + 1) := by
  funext j
  unfold upd mshW
  by_cases q : j = i - 34
  · subst q
    rw [if_pos rfl, if_neg (by omega), if_pos (by omega), show i - 34 + 34 = i by omega]
  · rw [if_neg q]
    by_cases z : j + 34 < i
    · rw [if_pos z, if_pos (by omega)]
    · rw [if_neg z, if_neg (by omega)]
theorem mshW_0 (f : Nat → Int32) : mshW f 34 = f := by
  funext j
  unfold mshW
  rw [if_neg (by omega)]
def putW (f g : Nat → Int32) (b n : Nat) : Nat → Int32 := fun j => if b ≤ j ∧ j < b + n then g (j - b) else f j
theorem putW_0 (f g : Nat → Int32) (b : Nat) : putW f g b 0 = f := by
  funext j
  unfold putW
  rw [if_neg (by omega)]
theorem putW_s (f g : Nat → Int32) (b n : Nat) : upd (putW f g b n) (b + n) (g n) = putW f g b (n + 1) := by
  funext j
  unfold upd putW
  by_cases q : j = b + n
  · subst q
    rw [if_pos rfl, if_pos (by omega), show b + n - b = n by omega]
  · rw [if_neg q]
    by_cases z : b ≤ j ∧ j < b + n
    · rw [if_pos z, if_pos (by omega)]
    · rw [if_neg z, if_neg (by omega)]
def remT (S : Sto) (u : Nat) : Sto := if u = 16 then up2 (upA S 128 (mshW (S 128) 544)) 114 32 (nI 15) else S
def remU (u : Nat) : Nat := if u = 16 then 15 else u
def remS (S : Sto) (u : Nat) : Sto := up2 (upA (remT S u) 128 (putW (remT S u 128) (S 119) (34 * remU u) 34)) 114 32 (nI (remU u + 1))
theorem remT_o {S : Sto} {u i : Nat} (h : i ≠ 128) (h2 : i ≠ 114) : remT S u i = S i := by
  unfold remT
  split
  · rw [up2_ne _ _ _ h2, upA_ne _ _ h]
  · rfl
theorem rem_o {S : Sto} {u i : Nat} (h : i ≠ 128) (h2 : i ≠ 114) : remS S u i = S i := by
  unfold remS
  rw [up2_ne _ _ _ h2, upA_ne _ _ h, remT_o h h2]
theorem rem_114 {S : Sto} {u k : Nat} (h : k ≠ 32) : remS S u 114 k = S 114 k := by
  unfold remS
  rw [up2_same, pk_un h, upA_ne _ _ (by decide)]
  unfold remT
  split
  · rw [up2_same, pk_un h, upA_ne _ _ (by decide)]
  · rfl
theorem remT_u {S : Sto} {u : Nat} (hu : S 114 32 = nI u) : remT S u 114 32 = nI (remU u) := by
  unfold remT remU
  split
  · rw [up2_same, pk_us]
  · exact hu
set_option maxHeartbeats 4000000 in
set_option maxRecDepth 100000 in
theorem c_X11_remember (l : Launch) (C : JC) (hC : JInj C) (S : Sto) (u : Nat) (hu : S 114 32 = nI u) (hul : u ≤ 16) : Con l C yX11_remember cX11_remember 2 none 1 [.ref (C.2.1 114)] S none (remS S u) := by
  have hru : remU u ≤ 15 := by unfold remU; split <;> omega
  refine con_of RX11 1 [some (.ref (C.2.1 114)), none] (by decide) rfl hC (Nat.le_of_ble_eq_true rfl) rfl (Nat.le_of_ble_eq_true rfl) (fun E hE hR => ?_)
  have K50 : ∀ (x1 : Option Value), J C E (remT S u) 50 [some (.ref (C.2.1 114)), x1] [] := by
    intro x1 
    refine j_iconst hE (nI 0) dX11_remember_50 kiconst_0 ?_
    refine j_istore1 hE dX11_remember_51 rfl ?_
    have L52 : ∀ (fu : Nat) (i : Nat), 34 - i < fu → (i ≤ 34) → J C E (upA (remT S u) 128 (putW (remT S u 128) (S 119) (34 * remU u) i)) 52 [some (.ref (C.2.1 114)), some (.int (nI i))] [] := by
      intro fu
      induction fu with
      | zero => intro i hm; omega
      | succ fu ih =>
        intro i hm hi
        refine j_iload1 hE dX11_remember_52 ?_
        refine j_bipush hE (nI 34) dX11_remember_53 kbipush_34 ?_
        refine j_icmpge hE 84 dX11_remember_55 (by decide) (fun c55 => ?_) (fun c55 => ?_)
        · skip
          have c55 := (nI_leI (by omega) (by omega)).mp c55
          have hii : i = 34 := by omega
          subst hii
          refine j_aload0 hE dX11_remember_84 ?_
          refine j_dup hE dX11_remember_85 rfl ?_
          refine j_geti hE fX11_201 dX11_remember_86 (by first | assumption | rfl) ?_
          refine j_iconst hE (nI 1) dX11_remember_89 kiconst_1 ?_
          refine j_iadd hE dX11_remember_90 ?_
          refine j_puti hE pX11_201 dX11_remember_91 (by first | assumption | rfl) rfl rfl ?_
          exact j_vret hE hR dX11_remember_94 (by rw [upA_ne _ _ (by decide), remT_u hu, nI_add]; rfl)
        · skip
          have c55 : i < 34 := Nat.lt_of_not_le (fun q => c55 (nI_le q (by omega)))
          refine j_aload0 hE dX11_remember_58 ?_
          refine j_getr hE fX11_53 dX11_remember_59 (j := 128) (by first | assumption | rfl) (rfl) ?_
          refine j_bipush hE (nI 34) dX11_remember_62 kbipush_34 ?_
          refine j_aload0 hE dX11_remember_64 ?_
          refine j_geti hE fX11_201 dX11_remember_65 (by first | assumption | rfl) ?_
          refine j_imul hE dX11_remember_68 ?_
          refine j_iload1 hE dX11_remember_69 ?_
          refine j_iadd hE dX11_remember_70 ?_
          refine j_aload0 hE dX11_remember_71 ?_
          refine j_getr hE fX11_22 dX11_remember_72 (j := 119) (by first | assumption | rfl) (rfl) ?_
          refine j_iload1 hE dX11_remember_75 ?_
          refine j_ialdN hE dX11_remember_76 (by first | assumption | rfl) (by omega) (by decide) ?_
          refine j_top2 (y := nI (34 * remU u + i)) (by rw [upA_ne _ _ (by decide), remT_u hu, pk_mul, nI_add]) ?_
          refine j_iastN hE dX11_remember_77 (by first | assumption | rfl) (by omega) (by decide) ?_
          refine j_iinc1 hE (nI (i + 1)) dX11_remember_78 (nI_inc _) rfl ?_
          refine j_goto hE 52 dX11_remember_81 (by decide) ?_
          exact j_cast (by rw [up2_upA, upA_ne (j := 119) _ _ (by decide), remT_o (i := 119) (by decide) (by decide), putW_s]) rfl (ih (i + 1) (by omega) (by omega))
    exact j_cast (by rw [putW_0, upA_self]) rfl (L52 35 0 (by omega) (by omega))
  refine j_aload0 hE dX11_remember_0 ?_
  refine j_geti hE fX11_201 dX11_remember_1 (by first | assumption | rfl) ?_
  refine j_bipush hE (nI 16) dX11_remember_4 kbipush_16 ?_
  refine j_icmpne hE 50 dX11_remember_6 (by decide) (fun c6 => ?_) (fun c6 => ?_)
  · skip
    rw [hu] at c6
    have c6 : ¬ u = 16 := fun z => c6 (by rw [z])
    exact j_cast (by rw [remT]; first | (rw [if_neg c6]; done) | (rw [if_pos c6, upA_ne _ _ (by decide), hu, c6]; rfl)) rfl (K50 _)
  · skip
    rw [hu] at c6
    have c6 : u = 16 := (nI_eq (by omega) (by decide)).mp c6
    refine j_bipush hE (nI 34) dX11_remember_9 kbipush_34 ?_
    refine j_istore1 hE dX11_remember_11 rfl ?_
    have L12 : ∀ (fu : Nat) (i : Nat), 544 - i < fu → (34 ≤ i) → (i ≤ 544) → J C E (upA S 128 (mshW (S 128) i)) 12 [some (.ref (C.2.1 114)), some (.int (nI i))] [] := by
      intro fu
      induction fu with
      | zero => intro i hm; omega
      | succ fu ih =>
        intro i hm h34 hi
        refine j_iload1 hE dX11_remember_12 ?_
        refine j_sipush hE (nI 544) dX11_remember_13 ksipush_544 ?_
        refine j_icmpge hE 40 dX11_remember_16 (by decide) (fun c16 => ?_) (fun c16 => ?_)
        · skip
          have c16 := (nI_leI (by omega) (by omega)).mp c16
          have hii : i = 544 := by omega
          subst hii
          refine j_aload0 hE dX11_remember_40 ?_
          refine j_dup hE dX11_remember_41 rfl ?_
          refine j_geti hE fX11_201 dX11_remember_42 (by first | assumption | rfl) ?_
          refine j_iconst hE (nI 1) dX11_remember_45 kiconst_1 ?_
          refine j_isub hE dX11_remember_46 ?_
          refine j_puti hE pX11_201 dX11_remember_47 (by first | assumption | rfl) rfl rfl ?_
          exact j_cast (by rw [remT]; first | (rw [if_neg c6]; done) | (rw [if_pos c6, upA_ne _ _ (by decide), hu, c6]; rfl)) rfl (K50 _)
        · skip
          have c16 : i < 544 := Nat.lt_of_not_le (fun q => c16 (nI_le q (by omega)))
          refine j_aload0 hE dX11_remember_19 ?_
          refine j_getr hE fX11_53 dX11_remember_20 (j := 128) (by first | assumption | rfl) (rfl) ?_
          refine j_iload1 hE dX11_remember_23 ?_
          refine j_bipush hE (nI 34) dX11_remember_24 kbipush_34 ?_
          refine j_isub hE dX11_remember_26 ?_
          refine j_aload0 hE dX11_remember_27 ?_
          refine j_getr hE fX11_53 dX11_remember_28 (j := 128) (by first | assumption | rfl) (rfl) ?_
          refine j_iload1 hE dX11_remember_31 ?_
          refine j_ialdN hE dX11_remember_32 (by first | assumption | rfl) (by omega) (by decide) ?_
          refine j_top2 (y := nI (i - 34)) (pk_sub h34) ?_
          refine j_iastN hE dX11_remember_33 (by first | assumption | rfl) (by omega) (by decide) ?_
          refine j_iinc1 hE (nI (i + 1)) dX11_remember_34 (nI_inc _) rfl ?_
          refine j_goto hE 12 dX11_remember_37 (by decide) ?_
          exact j_cast (by rw [up2_upA, upA_same, mshW_s _ h34]) rfl (ih (i + 1) (by omega) (by omega) (by omega))
    exact j_cast (by rw [mshW_0, upA_self]) rfl (L12 511 34 (by omega) (by omega) (by omega))

