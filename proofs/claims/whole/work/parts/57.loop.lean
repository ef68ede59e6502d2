/-! the law's own rows: the script is read -/
def SX (E : JE) (b L : Nat) (xs : Nat → Int32) : Prop := match E with
  | (p, l, e, R, s, m, args, below, meth, c, A, cells, slots, nL, Q) => va_X b L xs s s.heap ∧ b < s.heap.size ∧ ¬ A b
def LV (C : JC) (b i : Nat) : List (Option Value) := [some (.ref b), some (.ref (C.2.1 0)), some (.ref (C.2.1 114)), some (.int (nI i))]
section LawRows
variable {l : Launch} {C : JC} {E : JE} {own : String} {cc : ByteArray} {d : Nat} {S : Sto} {pc : Nat} {lv : List (Option Value)} {st : List Value} {b L : Nat} {xs : Nat → Int32}
theorem j_slen (hE : Jok l C E own cc d) (hX : SX E b L xs) (hd : decode cc pc = .ok (.arraylength, 1)) (k : J C E S (pc + 1) lv (.int (nI L) :: st)) : J C E S pc lv (.ref b :: st) := by
  obtain ⟨p, l0, e, R, s, m, args, below, meth, c, A, cells, slots, nL, Q⟩ := E
  obtain ⟨rfl, hx, hb, hml, hown, hts, hK, hN, hC, hA, hfr, hlo, hce, hsl⟩ := hE
  obtain ⟨x1, x2, x3⟩ := hX
  intro H locs ls hP hS hv
  exact va_slen hx hb x1 x2 x3 hS hd (k H locs ls hP hS hv)
theorem j_sld (hE : Jok l C E own cc d) (hX : SX E b L xs) {j : Nat} (hj : j < L) (hL : L ≤ 384) (hd : decode cc pc = .ok (.iaload, 1)) (k : J C E S (pc + 1) lv (.int (xs j) :: st)) : J C E S pc lv (.int (nI j) :: .ref b :: st) := by
  obtain ⟨p, l0, e, R, s, m, args, below, meth, c, A, cells, slots, nL, Q⟩ := E
  obtain ⟨rfl, hx, hb, hml, hown, hts, hK, hN, hC, hA, hfr, hlo, hce, hsl⟩ := hE
  obtain ⟨x1, x2, x3⟩ := hX
  intro H locs ls hP hS hv
  have ej : (nI j).toNatClampNeg = j := nI_clamp (by omega)
  refine va_sld hx hb x1 x2 x3 hS (i := nI j) ?_ hd ?_
  · rintro (q | q)
    · exact nI_pos (by omega) q
    · rw [ej] at q
      omega
  · rw [ej]
    exact k H locs ls hP hS hv
/-- a word of the script is pushed -/
theorem j_arg (hE : Jok l C E own cc d) (hX : SX E b L xs) {i : Nat} (k : Nat) {n : Int} (hn : Int32.ofInt n = nI k) (hj : i + k < L) (hL : L ≤ 384) (d0 : decode cc pc = .ok (.aload_n 0, 1)) (d1 : decode cc (pc + 1) = .ok (.iload_n 3, 1)) (d2 : decode cc (pc + 1 + 1) = .ok (.iconst n, 1)) (d3 : decode cc (pc + 1 + 1 + 1) = .ok (.iadd, 1)) (d4 : decode cc (pc + 1 + 1 + 1 + 1) = .ok (.iaload, 1)) (kk : J C E S (pc + 1 + 1 + 1 + 1 + 1) (LV C b i) (.int (xs (i + k)) :: st)) : J C E S pc (LV C b i) st := by
  refine j_aload_n hE d0 rfl ?_
  refine j_iload_n hE d1 rfl ?_
  refine j_iconst hE (nI k) d2 hn ?_
  refine j_iadd hE d3 ?_
  rw [nI_add]
  exact j_sld hE hX hj hL d4 kk
theorem j_argB (hE : Jok l C E own cc d) (hX : SX E b L xs) {i : Nat} (k : Nat) {n o1 o2 : Int} (hn : Int32.ofInt n = nI k) (hj : i + k < L) (hL : L ≤ 384) (d0 : decode cc pc = .ok (.aload_n 0, 1)) (d1 : decode cc (pc + 1) = .ok (.iload_n 3, 1)) (d2 : decode cc (pc + 1 + 1) = .ok (.iconst n, 1)) (d3 : decode cc (pc + 1 + 1 + 1) = .ok (.iadd, 1)) (d4 : decode cc (pc + 1 + 1 + 1 + 1) = .ok (.iaload, 1)) (d5 : decode cc (pc + 1 + 1 + 1 + 1 + 1) = .ok (.ifCond .eq o1, 3)) (d6 : decode cc (pc + 1 + 1 + 1 + 1 + 1 + 3) = .ok (.iconst 1, 1)) (d7 : decode cc (pc + 1 + 1 + 1 + 1 + 1 + 3 + 1) = .ok (.goto o2, 3)) (d8 : decode cc (pc + 12) = .ok (.iconst 0, 1)) (h1 : ((pc + 1 + 1 + 1 + 1 + 1 : Nat) : Int) + o1 = ((pc + 12 : Nat) : Int)) (h2 : ((pc + 1 + 1 + 1 + 1 + 1 + 3 + 1 : Nat) : Int) + o2 = ((pc + 12 + 1 : Nat) : Int)) (kk : J C E S (pc + 12 + 1) (LV C b i) (.int (if xs (i + k) = 0 then nI 0 else nI 1) :: st)) : J C E S pc (LV C b i) st := by
  refine j_arg hE hX k hn hj hL d0 d1 d2 d3 d4 ?_
  refine j_ifeq hE (pc + 12) d5 h1 (fun q => ?_) (fun q => ?_)
  · refine j_iconst hE (nI 0) d8 (by decide) ?_
    rw [if_pos q] at kk
    exact kk
  · refine j_iconst hE (nI 1) d6 (by decide) ?_
    refine j_goto hE (pc + 12 + 1) d7 h2 ?_
    rw [if_neg q] at kk
    exact kk
end LawRows
theorem lw_c0 {l : Launch} {C : JC} {E : JE} {S : Sto} {b L i : Nat} {xs : Nat → Int32} (hE : Jok l C E RL cL_law 40) (hX : SX E b L xs) (hi : i + 6 ≤ L) (hL : L ≤ 384) (hC : JInj C) (hN : ∀ S, RR S S → J C E S 1011 (LV C b i) []) (hS : RR S S) : J C E S 172 (LV C b i) [] := by
  obtain ⟨v, d1, d2, S1, S2, h1, h2, c1, c2, hR⟩ := m_feed (xs (i + 1)) l C S hC hS
  refine j_aload_n hE dL_law_172 rfl ?_
  refine j_arg hE hX 1 (by decide) (by omega) hL dL_law_173 dL_law_174 dL_law_175 dL_law_176 dL_law_177 ?_
  refine j_V1i hE mL_13 c1 dL_law_178 rfl (by omega) (Nat.le_of_ble_eq_true rfl) ?_
  refine j_aload_n hE dL_law_181 rfl ?_
  refine j_arg hE hX 1 (by decide) (by omega) hL dL_law_182 dL_law_183 dL_law_184 dL_law_185 dL_law_186 ?_
  refine j_V1i hE mL_17 c2 dL_law_187 rfl (by omega) (Nat.le_of_ble_eq_true rfl) ?_
  exact j_icmpeq hE 1011 dL_law_190 (by decide) (fun _ => hN S2 hR) (fun q => absurd rfl q)
theorem lw_c1 {l : Launch} {C : JC} {E : JE} {S : Sto} {b L i : Nat} {xs : Nat → Int32} (hE : Jok l C E RL cL_law 40) (hX : SX E b L xs) (hi : i + 6 ≤ L) (hL : L ≤ 384) (hC : JInj C) (hN : ∀ S, RR S S → J C E S 1011 (LV C b i) []) (hS : RR S S) : J C E S 195 (LV C b i) [] := by
  obtain ⟨v, d1, d2, S1, S2, h1, h2, c1, c2, hR⟩ := m_wall  l C S hC hS
  refine j_aload_n hE dL_law_195 rfl ?_
  refine j_V0i hE mL_18 c1 dL_law_196 rfl (by omega) (Nat.le_of_ble_eq_true rfl) ?_
  refine j_aload_n hE dL_law_199 rfl ?_
  refine j_V0i hE mL_22 c2 dL_law_200 rfl (by omega) (Nat.le_of_ble_eq_true rfl) ?_
  exact j_icmpeq hE 1011 dL_law_203 (by decide) (fun _ => hN S2 hR) (fun q => absurd rfl q)
theorem lw_c2 {l : Launch} {C : JC} {E : JE} {S : Sto} {b L i : Nat} {xs : Nat → Int32} (hE : Jok l C E RL cL_law 40) (hX : SX E b L xs) (hi : i + 6 ≤ L) (hL : L ≤ 384) (hC : JInj C) (hN : ∀ S, RR S S → J C E S 1011 (LV C b i) []) (hS : RR S S) : J C E S 208 (LV C b i) [] := by
  obtain ⟨v, d1, d2, S1, S2, h1, h2, c1, c2, hR⟩ := m_fault  l C S hC hS
  refine j_aload_n hE dL_law_208 rfl ?_
  refine j_V0i hE mL_23 c1 dL_law_209 rfl (by omega) (Nat.le_of_ble_eq_true rfl) ?_
  refine j_aload_n hE dL_law_212 rfl ?_
  refine j_V0i hE mL_26 c2 dL_law_213 rfl (by omega) (Nat.le_of_ble_eq_true rfl) ?_
  exact j_icmpeq hE 1011 dL_law_216 (by decide) (fun _ => hN S2 hR) (fun q => absurd rfl q)
theorem lw_c3 {l : Launch} {C : JC} {E : JE} {S : Sto} {b L i : Nat} {xs : Nat → Int32} (hE : Jok l C E RL cL_law 40) (hX : SX E b L xs) (hi : i + 6 ≤ L) (hL : L ≤ 384) (hC : JInj C) (hN : ∀ S, RR S S → J C E S 1011 (LV C b i) []) (hS : RR S S) : J C E S 221 (LV C b i) [] := by
  obtain ⟨v, d1, d2, S1, S2, h1, h2, c1, c2, hR⟩ := m_told (xs (i + 1)) l C S hC hS
  refine j_aload_n hE dL_law_221 rfl ?_
  refine j_arg hE hX 1 (by decide) (by omega) hL dL_law_222 dL_law_223 dL_law_224 dL_law_225 dL_law_226 ?_
  refine j_V1i hE mL_27 c1 dL_law_227 rfl (by omega) (Nat.le_of_ble_eq_true rfl) ?_
  refine j_aload_n hE dL_law_230 rfl ?_
  refine j_arg hE hX 1 (by decide) (by omega) hL dL_law_231 dL_law_232 dL_law_233 dL_law_234 dL_law_235 ?_
  refine j_V1i hE mL_30 c2 dL_law_236 rfl (by omega) (Nat.le_of_ble_eq_true rfl) ?_
  exact j_icmpeq hE 1011 dL_law_239 (by decide) (fun _ => hN S2 hR) (fun q => absurd rfl q)
theorem lw_c4 {l : Launch} {C : JC} {E : JE} {S : Sto} {b L i : Nat} {xs : Nat → Int32} (hE : Jok l C E RL cL_law 40) (hX : SX E b L xs) (hi : i + 6 ≤ L) (hL : L ≤ 384) (hC : JInj C) (hN : ∀ S, RR S S → J C E S 1011 (LV C b i) []) (hS : RR S S) : J C E S 244 (LV C b i) [] := by
  obtain ⟨v, d1, d2, S1, S2, h1, h2, c1, c2, hR⟩ := m_cell (xs (i + 1)) l C S hC hS
  refine j_aload_n hE dL_law_244 rfl ?_
  refine j_arg hE hX 1 (by decide) (by omega) hL dL_law_245 dL_law_246 dL_law_247 dL_law_248 dL_law_249 ?_
  refine j_V1i hE mL_31 c1 dL_law_250 rfl (by omega) (Nat.le_of_ble_eq_true rfl) ?_
  refine j_aload_n hE dL_law_253 rfl ?_
  refine j_arg hE hX 1 (by decide) (by omega) hL dL_law_254 dL_law_255 dL_law_256 dL_law_257 dL_law_258 ?_
  refine j_V1i hE mL_34 c2 dL_law_259 rfl (by omega) (Nat.le_of_ble_eq_true rfl) ?_
  exact j_icmpeq hE 1011 dL_law_262 (by decide) (fun _ => hN S2 hR) (fun q => absurd rfl q)
theorem lw_c5 {l : Launch} {C : JC} {E : JE} {S : Sto} {b L i : Nat} {xs : Nat → Int32} (hE : Jok l C E RL cL_law 40) (hX : SX E b L xs) (hi : i + 6 ≤ L) (hL : L ≤ 384) (hC : JInj C) (hN : ∀ S, RR S S → J C E S 1011 (LV C b i) []) (hS : RR S S) : J C E S 267 (LV C b i) [] := by
  obtain ⟨v, d1, d2, S1, S2, h1, h2, c1, c2, hR⟩ := m_leak (xs (i + 1)) l C S hC hS
  refine j_aload_n hE dL_law_267 rfl ?_
  refine j_arg hE hX 1 (by decide) (by omega) hL dL_law_268 dL_law_269 dL_law_270 dL_law_271 dL_law_272 ?_
  refine j_V1i hE mL_35 c1 dL_law_273 rfl (by omega) (Nat.le_of_ble_eq_true rfl) ?_
  refine j_aload_n hE dL_law_276 rfl ?_
  refine j_arg hE hX 1 (by decide) (by omega) hL dL_law_277 dL_law_278 dL_law_279 dL_law_280 dL_law_281 ?_
  refine j_V1i hE mL_38 c2 dL_law_282 rfl (by omega) (Nat.le_of_ble_eq_true rfl) ?_
  exact j_icmpeq hE 1011 dL_law_285 (by decide) (fun _ => hN S2 hR) (fun q => absurd rfl q)
theorem lw_c6 {l : Launch} {C : JC} {E : JE} {S : Sto} {b L i : Nat} {xs : Nat → Int32} (hE : Jok l C E RL cL_law 40) (hX : SX E b L xs) (hi : i + 6 ≤ L) (hL : L ≤ 384) (hC : JInj C) (hN : ∀ S, RR S S → J C E S 1011 (LV C b i) []) (hS : RR S S) : J C E S 290 (LV C b i) [] := by
  obtain ⟨v, d1, d2, S1, S2, h1, h2, c1, c2, hR⟩ := m_crack (xs (i + 1)) (xs (i + 2)) l C S hC hS
  refine j_aload_n hE dL_law_290 rfl ?_
  refine j_arg hE hX 1 (by decide) (by omega) hL dL_law_291 dL_law_292 dL_law_293 dL_law_294 dL_law_295 ?_
  refine j_arg hE hX 2 (by decide) (by omega) hL dL_law_296 dL_law_297 dL_law_298 dL_law_299 dL_law_300 ?_
  refine j_V2i hE mL_39 c1 dL_law_301 rfl (by omega) (Nat.le_of_ble_eq_true rfl) ?_
  refine j_aload_n hE dL_law_304 rfl ?_
  refine j_arg hE hX 1 (by decide) (by omega) hL dL_law_305 dL_law_306 dL_law_307 dL_law_308 dL_law_309 ?_
  refine j_arg hE hX 2 (by decide) (by omega) hL dL_law_310 dL_law_311 dL_law_312 dL_law_313 dL_law_314 ?_
  refine j_V2i hE mL_43 c2 dL_law_315 rfl (by omega) (Nat.le_of_ble_eq_true rfl) ?_
  exact j_icmpeq hE 1011 dL_law_318 (by decide) (fun _ => hN S2 hR) (fun q => absurd rfl q)
theorem lw_c7 {l : Launch} {C : JC} {E : JE} {S : Sto} {b L i : Nat} {xs : Nat → Int32} (hE : Jok l C E RL cL_law 40) (hX : SX E b L xs) (hi : i + 6 ≤ L) (hL : L ≤ 384) (hC : JInj C) (hN : ∀ S, RR S S → J C E S 1011 (LV C b i) []) (hS : RR S S) : J C E S 323 (LV C b i) [] := by
  obtain ⟨v, d1, d2, S1, S2, h1, h2, c1, c2, hR⟩ := m_likeness (xs (i + 1)) (xs (i + 2)) l C S hC hS
  refine j_aload_n hE dL_law_323 rfl ?_
  refine j_arg hE hX 1 (by decide) (by omega) hL dL_law_324 dL_law_325 dL_law_326 dL_law_327 dL_law_328 ?_
  refine j_arg hE hX 2 (by decide) (by omega) hL dL_law_329 dL_law_330 dL_law_331 dL_law_332 dL_law_333 ?_
  refine j_V2i hE mL_44 c1 dL_law_334 rfl (by omega) (Nat.le_of_ble_eq_true rfl) ?_
  refine j_aload_n hE dL_law_337 rfl ?_
  refine j_arg hE hX 1 (by decide) (by omega) hL dL_law_338 dL_law_339 dL_law_340 dL_law_341 dL_law_342 ?_
  refine j_arg hE hX 2 (by decide) (by omega) hL dL_law_343 dL_law_344 dL_law_345 dL_law_346 dL_law_347 ?_
  refine j_V2i hE mL_47 c2 dL_law_348 rfl (by omega) (Nat.le_of_ble_eq_true rfl) ?_
  exact j_icmpeq hE 1011 dL_law_351 (by decide) (fun _ => hN S2 hR) (fun q => absurd rfl q)
theorem lw_c8 {l : Launch} {C : JC} {E : JE} {S : Sto} {b L i : Nat} {xs : Nat → Int32} (hE : Jok l C E RL cL_law 40) (hX : SX E b L xs) (hi : i + 6 ≤ L) (hL : L ≤ 384) (hC : JInj C) (hN : ∀ S, RR S S → J C E S 1011 (LV C b i) []) (hS : RR S S) : J C E S 356 (LV C b i) [] := by
  obtain ⟨v, d1, d2, S1, S2, h1, h2, c1, c2, hR⟩ := m_day (xs (i + 1)) (xs (i + 2)) l C S hC hS
  refine j_aload_n hE dL_law_356 rfl ?_
  refine j_arg hE hX 1 (by decide) (by omega) hL dL_law_357 dL_law_358 dL_law_359 dL_law_360 dL_law_361 ?_
  refine j_arg hE hX 2 (by decide) (by omega) hL dL_law_362 dL_law_363 dL_law_364 dL_law_365 dL_law_366 ?_
  refine j_V2i hE mL_48 c1 dL_law_367 rfl (by omega) (Nat.le_of_ble_eq_true rfl) ?_
  refine j_aload_n hE dL_law_370 rfl ?_
  refine j_arg hE hX 1 (by decide) (by omega) hL dL_law_371 dL_law_372 dL_law_373 dL_law_374 dL_law_375 ?_
  refine j_arg hE hX 2 (by decide) (by omega) hL dL_law_376 dL_law_377 dL_law_378 dL_law_379 dL_law_380 ?_
  refine j_V2i hE mL_51 c2 dL_law_381 rfl (by omega) (Nat.le_of_ble_eq_true rfl) ?_
  exact j_icmpeq hE 1011 dL_law_384 (by decide) (fun _ => hN S2 hR) (fun q => absurd rfl q)
theorem lw_c9 {l : Launch} {C : JC} {E : JE} {S : Sto} {b L i : Nat} {xs : Nat → Int32} (hE : Jok l C E RL cL_law 40) (hX : SX E b L xs) (hi : i + 6 ≤ L) (hL : L ≤ 384) (hC : JInj C) (hN : ∀ S, RR S S → J C E S 1011 (LV C b i) []) (hS : RR S S) : J C E S 389 (LV C b i) [] := by
  obtain ⟨v, d1, d2, S1, S2, h1, h2, c1, c2, hR⟩ := m_look  l C S hC hS
  refine j_aload_n hE dL_law_389 rfl ?_
  refine j_V0i hE mL_52 c1 dL_law_390 rfl (by omega) (Nat.le_of_ble_eq_true rfl) ?_
  refine j_aload_n hE dL_law_393 rfl ?_
  refine j_V0i hE mL_55 c2 dL_law_394 rfl (by omega) (Nat.le_of_ble_eq_true rfl) ?_
  exact j_icmpeq hE 1011 dL_law_397 (by decide) (fun _ => hN S2 hR) (fun q => absurd rfl q)
theorem lw_c10 {l : Launch} {C : JC} {E : JE} {S : Sto} {b L i : Nat} {xs : Nat → Int32} (hE : Jok l C E RL cL_law 40) (hX : SX E b L xs) (hi : i + 6 ≤ L) (hL : L ≤ 384) (hC : JInj C) (hN : ∀ S, RR S S → J C E S 1011 (LV C b i) []) (hS : RR S S) : J C E S 402 (LV C b i) [] := by
  obtain ⟨v, d1, d2, S1, S2, h1, h2, c1, c2, hR⟩ := m_brush (xs (i + 1)) l C S hC hS
  refine j_aload_n hE dL_law_402 rfl ?_
  refine j_arg hE hX 1 (by decide) (by omega) hL dL_law_403 dL_law_404 dL_law_405 dL_law_406 dL_law_407 ?_
  refine j_V1i hE mL_56 c1 dL_law_408 rfl (by omega) (Nat.le_of_ble_eq_true rfl) ?_
  refine j_aload_n hE dL_law_411 rfl ?_
  refine j_arg hE hX 1 (by decide) (by omega) hL dL_law_412 dL_law_413 dL_law_414 dL_law_415 dL_law_416 ?_
  refine j_V1i hE mL_59 c2 dL_law_417 rfl (by omega) (Nat.le_of_ble_eq_true rfl) ?_
  exact j_icmpeq hE 1011 dL_law_420 (by decide) (fun _ => hN S2 hR) (fun q => absurd rfl q)
theorem lw_c11 {l : Launch} {C : JC} {E : JE} {S : Sto} {b L i : Nat} {xs : Nat → Int32} (hE : Jok l C E RL cL_law 40) (hX : SX E b L xs) (hi : i + 6 ≤ L) (hL : L ≤ 384) (hC : JInj C) (hN : ∀ S, RR S S → J C E S 1011 (LV C b i) []) (hS : RR S S) : J C E S 425 (LV C b i) [] := by
  obtain ⟨v, d1, d2, S1, S2, h1, h2, c1, c2, hR⟩ := m_lead (xs (i + 1)) (xs (i + 2)) l C S hC hS
  refine j_aload_n hE dL_law_425 rfl ?_
  refine j_arg hE hX 1 (by decide) (by omega) hL dL_law_426 dL_law_427 dL_law_428 dL_law_429 dL_law_430 ?_
  refine j_arg hE hX 2 (by decide) (by omega) hL dL_law_431 dL_law_432 dL_law_433 dL_law_434 dL_law_435 ?_
  refine j_V2i hE mL_60 c1 dL_law_436 rfl (by omega) (Nat.le_of_ble_eq_true rfl) ?_
  refine j_aload_n hE dL_law_439 rfl ?_
  refine j_arg hE hX 1 (by decide) (by omega) hL dL_law_440 dL_law_441 dL_law_442 dL_law_443 dL_law_444 ?_
  refine j_arg hE hX 2 (by decide) (by omega) hL dL_law_445 dL_law_446 dL_law_447 dL_law_448 dL_law_449 ?_
  refine j_V2i hE mL_63 c2 dL_law_450 rfl (by omega) (Nat.le_of_ble_eq_true rfl) ?_
  exact j_icmpeq hE 1011 dL_law_453 (by decide) (fun _ => hN S2 hR) (fun q => absurd rfl q)
theorem lw_c12 {l : Launch} {C : JC} {E : JE} {S : Sto} {b L i : Nat} {xs : Nat → Int32} (hE : Jok l C E RL cL_law 40) (hX : SX E b L xs) (hi : i + 6 ≤ L) (hL : L ≤ 384) (hC : JInj C) (hN : ∀ S, RR S S → J C E S 1011 (LV C b i) []) (hS : RR S S) : J C E S 458 (LV C b i) [] := by
  obtain ⟨v, d1, d2, S1, S2, h1, h2, c1, c2, hR⟩ := m_wind (xs (i + 1)) l C S hC hS
  refine j_aload_n hE dL_law_458 rfl ?_
  refine j_arg hE hX 1 (by decide) (by omega) hL dL_law_459 dL_law_460 dL_law_461 dL_law_462 dL_law_463 ?_
  refine j_V1i hE mL_64 c1 dL_law_464 rfl (by omega) (Nat.le_of_ble_eq_true rfl) ?_
  refine j_aload_n hE dL_law_467 rfl ?_
  refine j_arg hE hX 1 (by decide) (by omega) hL dL_law_468 dL_law_469 dL_law_470 dL_law_471 dL_law_472 ?_
  refine j_V1i hE mL_67 c2 dL_law_473 rfl (by omega) (Nat.le_of_ble_eq_true rfl) ?_
  exact j_icmpeq hE 1011 dL_law_476 (by decide) (fun _ => hN S2 hR) (fun q => absurd rfl q)
theorem lw_c13 {l : Launch} {C : JC} {E : JE} {S : Sto} {b L i : Nat} {xs : Nat → Int32} (hE : Jok l C E RL cL_law 40) (hX : SX E b L xs) (hi : i + 6 ≤ L) (hL : L ≤ 384) (hC : JInj C) (hN : ∀ S, RR S S → J C E S 1011 (LV C b i) []) (hS : RR S S) : J C E S 481 (LV C b i) [] := by
  obtain ⟨v, d1, d2, S1, S2, h1, h2, c1, c2, hR⟩ := m_fill (xs (i + 1)) (if xs (i + 2) = 0 then nI 0 else nI 1) l C S hC hS
  refine j_aload_n hE dL_law_481 rfl ?_
  refine j_arg hE hX 1 (by decide) (by omega) hL dL_law_482 dL_law_483 dL_law_484 dL_law_485 dL_law_486 ?_
  refine j_argB hE hX 2 (by decide) (by omega) hL dL_law_487 dL_law_488 dL_law_489 dL_law_490 dL_law_491 dL_law_492 dL_law_495 dL_law_496 dL_law_499 (by decide) (by decide) ?_
  refine j_V2i hE mL_68 c1 dL_law_500 rfl (by omega) (Nat.le_of_ble_eq_true rfl) ?_
  refine j_aload_n hE dL_law_503 rfl ?_
  refine j_arg hE hX 1 (by decide) (by omega) hL dL_law_504 dL_law_505 dL_law_506 dL_law_507 dL_law_508 ?_
  refine j_argB hE hX 2 (by decide) (by omega) hL dL_law_509 dL_law_510 dL_law_511 dL_law_512 dL_law_513 dL_law_514 dL_law_517 dL_law_518 dL_law_521 (by decide) (by decide) ?_
  refine j_V2i hE mL_72 c2 dL_law_522 rfl (by omega) (Nat.le_of_ble_eq_true rfl) ?_
  exact j_icmpeq hE 1011 dL_law_525 (by decide) (fun _ => hN S2 hR) (fun q => absurd rfl q)
theorem lw_c14 {l : Launch} {C : JC} {E : JE} {S : Sto} {b L i : Nat} {xs : Nat → Int32} (hE : Jok l C E RL cL_law 40) (hX : SX E b L xs) (hi : i + 6 ≤ L) (hL : L ≤ 384) (hC : JInj C) (hN : ∀ S, RR S S → J C E S 1011 (LV C b i) []) (hS : RR S S) : J C E S 530 (LV C b i) [] := by
  obtain ⟨v, d1, d2, S1, S2, h1, h2, c1, c2, hR⟩ := m_drift (xs (i + 1)) l C S hC hS
  refine j_aload_n hE dL_law_530 rfl ?_
  refine j_arg hE hX 1 (by decide) (by omega) hL dL_law_531 dL_law_532 dL_law_533 dL_law_534 dL_law_535 ?_
  refine j_V1i hE mL_73 c1 dL_law_536 rfl (by omega) (Nat.le_of_ble_eq_true rfl) ?_
  refine j_aload_n hE dL_law_539 rfl ?_
  refine j_arg hE hX 1 (by decide) (by omega) hL dL_law_540 dL_law_541 dL_law_542 dL_law_543 dL_law_544 ?_
  refine j_V1i hE mL_76 c2 dL_law_545 rfl (by omega) (Nat.le_of_ble_eq_true rfl) ?_
  exact j_icmpeq hE 1011 dL_law_548 (by decide) (fun _ => hN S2 hR) (fun q => absurd rfl q)
theorem lw_c15 {l : Launch} {C : JC} {E : JE} {S : Sto} {b L i : Nat} {xs : Nat → Int32} (hE : Jok l C E RL cL_law 40) (hX : SX E b L xs) (hi : i + 6 ≤ L) (hL : L ≤ 384) (hC : JInj C) (hN : ∀ S, RR S S → J C E S 1011 (LV C b i) []) (hS : RR S S) : J C E S 553 (LV C b i) [] := by
  obtain ⟨v, d1, d2, S1, S2, h1, h2, c1, c2, hR⟩ := m_undo  l C S hC hS
  refine j_aload_n hE dL_law_553 rfl ?_
  refine j_V0i hE mL_77 c1 dL_law_554 rfl (by omega) (Nat.le_of_ble_eq_true rfl) ?_
  refine j_aload_n hE dL_law_557 rfl ?_
  refine j_V0i hE mL_80 c2 dL_law_558 rfl (by omega) (Nat.le_of_ble_eq_true rfl) ?_
  exact j_icmpeq hE 1011 dL_law_561 (by decide) (fun _ => hN S2 hR) (fun q => absurd rfl q)
theorem lw_c16 {l : Launch} {C : JC} {E : JE} {S : Sto} {b L i : Nat} {xs : Nat → Int32} (hE : Jok l C E RL cL_law 40) (hX : SX E b L xs) (hi : i + 6 ≤ L) (hL : L ≤ 384) (hC : JInj C) (hN : ∀ S, RR S S → J C E S 1011 (LV C b i) []) (hS : RR S S) : J C E S 566 (LV C b i) [] := by
  obtain ⟨v, d1, d2, S1, S2, h1, h2, c1, c2, hR⟩ := m_shown (xs (i + 1)) (xs (i + 2)) l C S hC hS
  refine j_aload_n hE dL_law_566 rfl ?_
  refine j_arg hE hX 1 (by decide) (by omega) hL dL_law_567 dL_law_568 dL_law_569 dL_law_570 dL_law_571 ?_
  refine j_arg hE hX 2 (by decide) (by omega) hL dL_law_572 dL_law_573 dL_law_574 dL_law_575 dL_law_576 ?_
  refine j_V2i hE mL_81 c1 dL_law_577 rfl (by omega) (Nat.le_of_ble_eq_true rfl) ?_
  refine j_aload_n hE dL_law_580 rfl ?_
  refine j_arg hE hX 1 (by decide) (by omega) hL dL_law_581 dL_law_582 dL_law_583 dL_law_584 dL_law_585 ?_
  refine j_arg hE hX 2 (by decide) (by omega) hL dL_law_586 dL_law_587 dL_law_588 dL_law_589 dL_law_590 ?_
  refine j_V2i hE mL_84 c2 dL_law_591 rfl (by omega) (Nat.le_of_ble_eq_true rfl) ?_
  exact j_icmpeq hE 1011 dL_law_594 (by decide) (fun _ => hN S2 hR) (fun q => absurd rfl q)
theorem lw_c17 {l : Launch} {C : JC} {E : JE} {S : Sto} {b L i : Nat} {xs : Nat → Int32} (hE : Jok l C E RL cL_law 40) (hX : SX E b L xs) (hi : i + 6 ≤ L) (hL : L ≤ 384) (hC : JInj C) (hN : ∀ S, RR S S → J C E S 1011 (LV C b i) []) (hS : RR S S) : J C E S 599 (LV C b i) [] := by
  obtain ⟨v, d1, d2, S1, S2, h1, h2, c1, c2, hR⟩ := m_first (xs (i + 1)) (xs (i + 2)) l C S hC hS
  refine j_aload_n hE dL_law_599 rfl ?_
  refine j_arg hE hX 1 (by decide) (by omega) hL dL_law_600 dL_law_601 dL_law_602 dL_law_603 dL_law_604 ?_
  refine j_arg hE hX 2 (by decide) (by omega) hL dL_law_605 dL_law_606 dL_law_607 dL_law_608 dL_law_609 ?_
  refine j_V2i hE mL_85 c1 dL_law_610 rfl (by omega) (Nat.le_of_ble_eq_true rfl) ?_
  refine j_aload_n hE dL_law_613 rfl ?_
  refine j_arg hE hX 1 (by decide) (by omega) hL dL_law_614 dL_law_615 dL_law_616 dL_law_617 dL_law_618 ?_
  refine j_arg hE hX 2 (by decide) (by omega) hL dL_law_619 dL_law_620 dL_law_621 dL_law_622 dL_law_623 ?_
  refine j_V2i hE mL_88 c2 dL_law_624 rfl (by omega) (Nat.le_of_ble_eq_true rfl) ?_
  exact j_icmpeq hE 1011 dL_law_627 (by decide) (fun _ => hN S2 hR) (fun q => absurd rfl q)
theorem lw_c18 {l : Launch} {C : JC} {E : JE} {S : Sto} {b L i : Nat} {xs : Nat → Int32} (hE : Jok l C E RL cL_law 40) (hX : SX E b L xs) (hi : i + 6 ≤ L) (hL : L ≤ 384) (hC : JInj C) (hN : ∀ S, RR S S → J C E S 1011 (LV C b i) []) (hS : RR S S) : J C E S 632 (LV C b i) [] := by
  obtain ⟨v, d1, d2, S1, S2, h1, h2, c1, c2, hR⟩ := m_leadTo (xs (i + 1)) (xs (i + 2)) (xs (i + 3)) (xs (i + 4)) (xs (i + 5)) l C S hC hS
  refine j_aload_n hE dL_law_632 rfl ?_
  refine j_arg hE hX 1 (by decide) (by omega) hL dL_law_633 dL_law_634 dL_law_635 dL_law_636 dL_law_637 ?_
  refine j_arg hE hX 2 (by decide) (by omega) hL dL_law_638 dL_law_639 dL_law_640 dL_law_641 dL_law_642 ?_
  refine j_arg hE hX 3 (by decide) (by omega) hL dL_law_643 dL_law_644 dL_law_645 dL_law_646 dL_law_647 ?_
  refine j_arg hE hX 4 (by decide) (by omega) hL dL_law_648 dL_law_649 dL_law_650 dL_law_651 dL_law_652 ?_
  refine j_arg hE hX 5 (by decide) (by omega) hL dL_law_653 dL_law_654 dL_law_655 dL_law_656 dL_law_657 ?_
  refine j_V5i hE mL_89 c1 dL_law_658 rfl (by omega) (Nat.le_of_ble_eq_true rfl) ?_
  refine j_aload_n hE dL_law_661 rfl ?_
  refine j_arg hE hX 1 (by decide) (by omega) hL dL_law_662 dL_law_663 dL_law_664 dL_law_665 dL_law_666 ?_
  refine j_arg hE hX 2 (by decide) (by omega) hL dL_law_667 dL_law_668 dL_law_669 dL_law_670 dL_law_671 ?_
  refine j_arg hE hX 3 (by decide) (by omega) hL dL_law_672 dL_law_673 dL_law_674 dL_law_675 dL_law_676 ?_
  refine j_arg hE hX 4 (by decide) (by omega) hL dL_law_677 dL_law_678 dL_law_679 dL_law_680 dL_law_681 ?_
  refine j_arg hE hX 5 (by decide) (by omega) hL dL_law_682 dL_law_683 dL_law_684 dL_law_685 dL_law_686 ?_
  refine j_V5i hE mL_93 c2 dL_law_687 rfl (by omega) (Nat.le_of_ble_eq_true rfl) ?_
  exact j_icmpeq hE 1011 dL_law_690 (by decide) (fun _ => hN S2 hR) (fun q => absurd rfl q)
theorem lw_c19 {l : Launch} {C : JC} {E : JE} {S : Sto} {b L i : Nat} {xs : Nat → Int32} (hE : Jok l C E RL cL_law 40) (hX : SX E b L xs) (hi : i + 6 ≤ L) (hL : L ≤ 384) (hC : JInj C) (hN : ∀ S, RR S S → J C E S 1011 (LV C b i) []) (hS : RR S S) : J C E S 695 (LV C b i) [] := by
  obtain ⟨v, d1, d2, S1, S2, h1, h2, c1, c2, hR⟩ := m_often (xs (i + 1)) (xs (i + 2)) (xs (i + 3)) (xs (i + 4)) l C S hC hS
  refine j_aload_n hE dL_law_695 rfl ?_
  refine j_arg hE hX 1 (by decide) (by omega) hL dL_law_696 dL_law_697 dL_law_698 dL_law_699 dL_law_700 ?_
  refine j_arg hE hX 2 (by decide) (by omega) hL dL_law_701 dL_law_702 dL_law_703 dL_law_704 dL_law_705 ?_
  refine j_arg hE hX 3 (by decide) (by omega) hL dL_law_706 dL_law_707 dL_law_708 dL_law_709 dL_law_710 ?_
  refine j_arg hE hX 4 (by decide) (by omega) hL dL_law_711 dL_law_712 dL_law_713 dL_law_714 dL_law_715 ?_
  refine j_V4i hE mL_94 c1 dL_law_716 rfl (by omega) (Nat.le_of_ble_eq_true rfl) ?_
  refine j_aload_n hE dL_law_719 rfl ?_
  refine j_arg hE hX 1 (by decide) (by omega) hL dL_law_720 dL_law_721 dL_law_722 dL_law_723 dL_law_724 ?_
  refine j_arg hE hX 2 (by decide) (by omega) hL dL_law_725 dL_law_726 dL_law_727 dL_law_728 dL_law_729 ?_
  refine j_arg hE hX 3 (by decide) (by omega) hL dL_law_730 dL_law_731 dL_law_732 dL_law_733 dL_law_734 ?_
  refine j_arg hE hX 4 (by decide) (by omega) hL dL_law_735 dL_law_736 dL_law_737 dL_law_738 dL_law_739 ?_
  refine j_V4i hE mL_98 c2 dL_law_740 rfl (by omega) (Nat.le_of_ble_eq_true rfl) ?_
  exact j_icmpeq hE 1011 dL_law_743 (by decide) (fun _ => hN S2 hR) (fun q => absurd rfl q)
theorem lw_c20 {l : Launch} {C : JC} {E : JE} {S : Sto} {b L i : Nat} {xs : Nat → Int32} (hE : Jok l C E RL cL_law 40) (hX : SX E b L xs) (hi : i + 6 ≤ L) (hL : L ≤ 384) (hC : JInj C) (hN : ∀ S, RR S S → J C E S 1011 (LV C b i) []) (hS : RR S S) : J C E S 748 (LV C b i) [] := by
  obtain ⟨v, d1, d2, S1, S2, h1, h2, c1, c2, hR⟩ := m_wasRain (xs (i + 1)) l C S hC hS
  refine j_aload_n hE dL_law_748 rfl ?_
  refine j_arg hE hX 1 (by decide) (by omega) hL dL_law_749 dL_law_750 dL_law_751 dL_law_752 dL_law_753 ?_
  refine j_V1i hE mL_99 c1 dL_law_754 rfl (by omega) (Nat.le_of_ble_eq_true rfl) ?_
  refine j_aload_n hE dL_law_757 rfl ?_
  refine j_arg hE hX 1 (by decide) (by omega) hL dL_law_758 dL_law_759 dL_law_760 dL_law_761 dL_law_762 ?_
  refine j_V1i hE mL_102 c2 dL_law_763 rfl (by omega) (Nat.le_of_ble_eq_true rfl) ?_
  exact j_icmpeq hE 1011 dL_law_766 (by decide) (fun _ => hN S2 hR) (fun q => absurd rfl q)
theorem lw_c21 {l : Launch} {C : JC} {E : JE} {S : Sto} {b L i : Nat} {xs : Nat → Int32} (hE : Jok l C E RL cL_law 40) (hX : SX E b L xs) (hi : i + 6 ≤ L) (hL : L ≤ 384) (hC : JInj C) (hN : ∀ S, RR S S → J C E S 1011 (LV C b i) []) (hS : RR S S) : J C E S 771 (LV C b i) [] := by
  obtain ⟨v, d1, d2, S1, S2, h1, h2, c1, c2, hR⟩ := m_rainToTell (xs (i + 1)) l C S hC hS
  refine j_aload_n hE dL_law_771 rfl ?_
  refine j_arg hE hX 1 (by decide) (by omega) hL dL_law_772 dL_law_773 dL_law_774 dL_law_775 dL_law_776 ?_
  refine j_V1i hE mL_103 c1 dL_law_777 rfl (by omega) (Nat.le_of_ble_eq_true rfl) ?_
  refine j_aload_n hE dL_law_780 rfl ?_
  refine j_arg hE hX 1 (by decide) (by omega) hL dL_law_781 dL_law_782 dL_law_783 dL_law_784 dL_law_785 ?_
  refine j_V1i hE mL_106 c2 dL_law_786 rfl (by omega) (Nat.le_of_ble_eq_true rfl) ?_
  exact j_icmpeq hE 1011 dL_law_789 (by decide) (fun _ => hN S2 hR) (fun q => absurd rfl q)
theorem lw_c22 {l : Launch} {C : JC} {E : JE} {S : Sto} {b L i : Nat} {xs : Nat → Int32} (hE : Jok l C E RL cL_law 40) (hX : SX E b L xs) (hi : i + 6 ≤ L) (hL : L ≤ 384) (hC : JInj C) (hN : ∀ S, RR S S → J C E S 1011 (LV C b i) []) (hS : RR S S) : J C E S 794 (LV C b i) [] := by
  obtain ⟨v, d1, d2, S1, S2, h1, h2, c1, c2, hR⟩ := m_dryIn  l C S hC hS
  refine j_aload_n hE dL_law_794 rfl ?_
  refine j_V0i hE mL_107 c1 dL_law_795 rfl (by omega) (Nat.le_of_ble_eq_true rfl) ?_
  refine j_aload_n hE dL_law_798 rfl ?_
  refine j_V0i hE mL_110 c2 dL_law_799 rfl (by omega) (Nat.le_of_ble_eq_true rfl) ?_
  exact j_icmpeq hE 1011 dL_law_802 (by decide) (fun _ => hN S2 hR) (fun q => absurd rfl q)
theorem lw_c23 {l : Launch} {C : JC} {E : JE} {S : Sto} {b L i : Nat} {xs : Nat → Int32} (hE : Jok l C E RL cL_law 40) (hX : SX E b L xs) (hi : i + 6 ≤ L) (hL : L ≤ 384) (hC : JInj C) (hN : ∀ S, RR S S → J C E S 1011 (LV C b i) []) (hS : RR S S) : J C E S 807 (LV C b i) [] := by
  obtain ⟨v, d1, d2, S1, S2, h1, h2, c1, c2, hR⟩ := m_either (xs (i + 1)) (xs (i + 2)) (xs (i + 3)) l C S hC hS
  refine j_aload_n hE dL_law_807 rfl ?_
  refine j_arg hE hX 1 (by decide) (by omega) hL dL_law_808 dL_law_809 dL_law_810 dL_law_811 dL_law_812 ?_
  refine j_arg hE hX 2 (by decide) (by omega) hL dL_law_813 dL_law_814 dL_law_815 dL_law_816 dL_law_817 ?_
  refine j_arg hE hX 3 (by decide) (by omega) hL dL_law_818 dL_law_819 dL_law_820 dL_law_821 dL_law_822 ?_
  refine j_V3i hE mL_111 c1 dL_law_823 rfl (by omega) (Nat.le_of_ble_eq_true rfl) ?_
  refine j_aload_n hE dL_law_826 rfl ?_
  refine j_arg hE hX 1 (by decide) (by omega) hL dL_law_827 dL_law_828 dL_law_829 dL_law_830 dL_law_831 ?_
  refine j_arg hE hX 2 (by decide) (by omega) hL dL_law_832 dL_law_833 dL_law_834 dL_law_835 dL_law_836 ?_
  refine j_arg hE hX 3 (by decide) (by omega) hL dL_law_837 dL_law_838 dL_law_839 dL_law_840 dL_law_841 ?_
  refine j_V3i hE mL_115 c2 dL_law_842 rfl (by omega) (Nat.le_of_ble_eq_true rfl) ?_
  exact j_icmpeq hE 1011 dL_law_845 (by decide) (fun _ => hN S2 hR) (fun q => absurd rfl q)
theorem lw_c24 {l : Launch} {C : JC} {E : JE} {S : Sto} {b L i : Nat} {xs : Nat → Int32} (hE : Jok l C E RL cL_law 40) (hX : SX E b L xs) (hi : i + 6 ≤ L) (hL : L ≤ 384) (hC : JInj C) (hN : ∀ S, RR S S → J C E S 1011 (LV C b i) []) (hS : RR S S) : J C E S 850 (LV C b i) [] := by
  obtain ⟨v, d1, d2, S1, S2, h1, h2, c1, c2, hR⟩ := m_rainy (xs (i + 1)) (xs (i + 2)) l C S hC hS
  refine j_aload_n hE dL_law_850 rfl ?_
  refine j_arg hE hX 1 (by decide) (by omega) hL dL_law_851 dL_law_852 dL_law_853 dL_law_854 dL_law_855 ?_
  refine j_arg hE hX 2 (by decide) (by omega) hL dL_law_856 dL_law_857 dL_law_858 dL_law_859 dL_law_860 ?_
  refine j_V2i hE mL_116 c1 dL_law_861 rfl (by omega) (Nat.le_of_ble_eq_true rfl) ?_
  refine j_aload_n hE dL_law_864 rfl ?_
  refine j_arg hE hX 1 (by decide) (by omega) hL dL_law_865 dL_law_866 dL_law_867 dL_law_868 dL_law_869 ?_
  refine j_arg hE hX 2 (by decide) (by omega) hL dL_law_870 dL_law_871 dL_law_872 dL_law_873 dL_law_874 ?_
  refine j_V2i hE mL_119 c2 dL_law_875 rfl (by omega) (Nat.le_of_ble_eq_true rfl) ?_
  exact j_icmpeq hE 1011 dL_law_878 (by decide) (fun _ => hN S2 hR) (fun q => absurd rfl q)
theorem lw_c25 {l : Launch} {C : JC} {E : JE} {S : Sto} {b L i : Nat} {xs : Nat → Int32} (hE : Jok l C E RL cL_law 40) (hX : SX E b L xs) (hi : i + 6 ≤ L) (hL : L ≤ 384) (hC : JInj C) (hN : ∀ S, RR S S → J C E S 1011 (LV C b i) []) (hS : RR S S) : J C E S 883 (LV C b i) [] := by
  obtain ⟨v, d1, d2, S1, S2, h1, h2, c1, c2, hR⟩ := m_write (xs (i + 1)) (xs (i + 2)) l C S hC hS
  refine j_aload_n hE dL_law_883 rfl ?_
  refine j_arg hE hX 1 (by decide) (by omega) hL dL_law_884 dL_law_885 dL_law_886 dL_law_887 dL_law_888 ?_
  refine j_arg hE hX 2 (by decide) (by omega) hL dL_law_889 dL_law_890 dL_law_891 dL_law_892 dL_law_893 ?_
  refine j_V2i hE mL_120 c1 dL_law_894 rfl (by omega) (Nat.le_of_ble_eq_true rfl) ?_
  refine j_aload_n hE dL_law_897 rfl ?_
  refine j_arg hE hX 1 (by decide) (by omega) hL dL_law_898 dL_law_899 dL_law_900 dL_law_901 dL_law_902 ?_
  refine j_arg hE hX 2 (by decide) (by omega) hL dL_law_903 dL_law_904 dL_law_905 dL_law_906 dL_law_907 ?_
  refine j_V2i hE mL_123 c2 dL_law_908 rfl (by omega) (Nat.le_of_ble_eq_true rfl) ?_
  exact j_icmpeq hE 1011 dL_law_911 (by decide) (fun _ => hN S2 hR) (fun q => absurd rfl q)
theorem lw_c26 {l : Launch} {C : JC} {E : JE} {S : Sto} {b L i : Nat} {xs : Nat → Int32} (hE : Jok l C E RL cL_law 40) (hX : SX E b L xs) (hi : i + 6 ≤ L) (hL : L ≤ 384) (hC : JInj C) (hN : ∀ S, RR S S → J C E S 1011 (LV C b i) []) (hS : RR S S) : J C E S 916 (LV C b i) [] := by
  obtain ⟨v, d1, d2, S1, S2, h1, h2, c1, c2, hR⟩ := m_tear  l C S hC hS
  refine j_aload_n hE dL_law_916 rfl ?_
  refine j_V0i hE mL_124 c1 dL_law_917 rfl (by omega) (Nat.le_of_ble_eq_true rfl) ?_
  refine j_aload_n hE dL_law_920 rfl ?_
  refine j_V0i hE mL_127 c2 dL_law_921 rfl (by omega) (Nat.le_of_ble_eq_true rfl) ?_
  exact j_icmpeq hE 1011 dL_law_924 (by decide) (fun _ => hN S2 hR) (fun q => absurd rfl q)
theorem lw_c27 {l : Launch} {C : JC} {E : JE} {S : Sto} {b L i : Nat} {xs : Nat → Int32} (hE : Jok l C E RL cL_law 40) (hX : SX E b L xs) (hi : i + 6 ≤ L) (hL : L ≤ 384) (hC : JInj C) (hN : ∀ S, RR S S → J C E S 1011 (LV C b i) []) (hS : RR S S) : J C E S 929 (LV C b i) [] := by
  obtain ⟨v, d1, d2, S1, S2, h1, h2, c1, c2, hR⟩ := m_judge  l C S hC hS
  refine j_aload_n hE dL_law_929 rfl ?_
  refine j_V0i hE mL_128 c1 dL_law_930 rfl (by omega) (Nat.le_of_ble_eq_true rfl) ?_
  refine j_aload_n hE dL_law_933 rfl ?_
  refine j_V0i hE mL_131 c2 dL_law_934 rfl (by omega) (Nat.le_of_ble_eq_true rfl) ?_
  exact j_icmpeq hE 1011 dL_law_937 (by decide) (fun _ => hN S2 hR) (fun q => absurd rfl q)
theorem lw_c28 {l : Launch} {C : JC} {E : JE} {S : Sto} {b L i : Nat} {xs : Nat → Int32} (hE : Jok l C E RL cL_law 40) (hX : SX E b L xs) (hi : i + 6 ≤ L) (hL : L ≤ 384) (hC : JInj C) (hN : ∀ S, RR S S → J C E S 1011 (LV C b i) []) (hS : RR S S) : J C E S 942 (LV C b i) [] := by
  obtain ⟨v, d1, d2, S1, S2, h1, h2, c1, c2, hR⟩ := m_seed (xs (i + 1)) l C S hC hS
  refine j_aload_n hE dL_law_942 rfl ?_
  refine j_arg hE hX 1 (by decide) (by omega) hL dL_law_943 dL_law_944 dL_law_945 dL_law_946 dL_law_947 ?_
  refine j_V1i hE mL_132 c1 dL_law_948 rfl (by omega) (Nat.le_of_ble_eq_true rfl) ?_
  refine j_aload_n hE dL_law_951 rfl ?_
  refine j_arg hE hX 1 (by decide) (by omega) hL dL_law_952 dL_law_953 dL_law_954 dL_law_955 dL_law_956 ?_
  refine j_V1i hE mL_135 c2 dL_law_957 rfl (by omega) (Nat.le_of_ble_eq_true rfl) ?_
  exact j_icmpeq hE 1011 dL_law_960 (by decide) (fun _ => hN S2 hR) (fun q => absurd rfl q)
theorem lw_c29 {l : Launch} {C : JC} {E : JE} {S : Sto} {b L i : Nat} {xs : Nat → Int32} (hE : Jok l C E RL cL_law 40) (hX : SX E b L xs) (hi : i + 6 ≤ L) (hL : L ≤ 384) (hC : JInj C) (hN : ∀ S, RR S S → J C E S 1011 (LV C b i) []) (hS : RR S S) : J C E S 965 (LV C b i) [] := by
  obtain ⟨v, d1, d2, S1, S2, h1, h2, c1, c2, hR⟩ := m_keep (xs (i + 1)) l C S hC hS
  refine j_aload_n hE dL_law_965 rfl ?_
  refine j_arg hE hX 1 (by decide) (by omega) hL dL_law_966 dL_law_967 dL_law_968 dL_law_969 dL_law_970 ?_
  refine j_V1i hE mL_136 c1 dL_law_971 rfl (by omega) (Nat.le_of_ble_eq_true rfl) ?_
  refine j_aload_n hE dL_law_974 rfl ?_
  refine j_arg hE hX 1 (by decide) (by omega) hL dL_law_975 dL_law_976 dL_law_977 dL_law_978 dL_law_979 ?_
  refine j_V1i hE mL_139 c2 dL_law_980 rfl (by omega) (Nat.le_of_ble_eq_true rfl) ?_
  exact j_icmpeq hE 1011 dL_law_983 (by decide) (fun _ => hN S2 hR) (fun q => absurd rfl q)
theorem lw_c30 {l : Launch} {C : JC} {E : JE} {S : Sto} {b L i : Nat} {xs : Nat → Int32} (hE : Jok l C E RL cL_law 40) (hX : SX E b L xs) (hi : i + 6 ≤ L) (hL : L ≤ 384) (hC : JInj C) (hN : ∀ S, RR S S → J C E S 1011 (LV C b i) []) (hS : RR S S) : J C E S 988 (LV C b i) [] := by
  obtain ⟨v, d1, d2, S1, S2, h1, h2, c1, c2, hR⟩ := m_goBack (xs (i + 1)) l C S hC hS
  refine j_aload_n hE dL_law_988 rfl ?_
  refine j_arg hE hX 1 (by decide) (by omega) hL dL_law_989 dL_law_990 dL_law_991 dL_law_992 dL_law_993 ?_
  refine j_V1i hE mL_140 c1 dL_law_994 rfl (by omega) (Nat.le_of_ble_eq_true rfl) ?_
  refine j_aload_n hE dL_law_997 rfl ?_
  refine j_arg hE hX 1 (by decide) (by omega) hL dL_law_998 dL_law_999 dL_law_1000 dL_law_1001 dL_law_1002 ?_
  refine j_V1i hE mL_143 c2 dL_law_1003 rfl (by omega) (Nat.le_of_ble_eq_true rfl) ?_
  exact j_icmpeq hE 1011 dL_law_1006 (by decide) (fun _ => hN S2 hR) (fun q => absurd rfl q)
theorem lw_loop {l : Launch} {C : JC} {E : JE} {b L : Nat} {xs : Nat → Int32} (hE : Jok l C E RL cL_law 40) (hX : SX E b L xs) (hL : L ≤ 384) (hC : JInj C) (hEnd : ∀ (S : Sto) (lv : List (Option Value)), J C E S 1018 lv [.int 1]) : ∀ (n i : Nat) (S : Sto), i ≤ 500 → L ≤ n + i → RR S S → J C E S 18 (LV C b i) []
  | 0, i, S, hi, hn, hS => by
    refine j_iload_n hE dL_law_18 rfl ?_
    refine j_aload_n hE dL_law_19 rfl ?_
    refine j_slen hE hX dL_law_20 ?_
    refine j_bipush hE (nI 6) dL_law_21 (by decide) ?_
    refine j_isub hE dL_law_23 ?_
    refine j_icmpgt hE 1017 dL_law_24 (by decide) (fun q => ?_) (fun q => ?_)
    · exact j_iconst hE 1 dL_law_1017 (by decide) (hEnd _ _)
    · exfalso
      apply q
      rw [t_lt, pk_sub_toInt (by omega) (by omega), nI_toInt (by omega)]
      omega
  | n + 1, i, S, hi, hn, hS => by
    refine j_iload_n hE dL_law_18 rfl ?_
    refine j_aload_n hE dL_law_19 rfl ?_
    refine j_slen hE hX dL_law_20 ?_
    refine j_bipush hE (nI 6) dL_law_21 (by decide) ?_
    refine j_isub hE dL_law_23 ?_
    refine j_icmpgt hE 1017 dL_law_24 (by decide) (fun q => ?_) (fun q => ?_)
    · exact j_iconst hE 1 dL_law_1017 (by decide) (hEnd _ _)
    rw [t_lt, pk_sub_toInt (by omega) (by omega), nI_toInt (by omega)] at q
    have hi6 : i + 6 ≤ L := by omega
    have hN : ∀ S, RR S S → J C E S 1011 (LV C b i) [] := fun S hS => by
      refine j_iinc3 hE (nI (i + 6)) dL_law_1011 (nI_add i 6) rfl ?_
      refine j_goto hE 18 dL_law_1014 (by decide) ?_
      exact lw_loop hE hX hL hC hEnd n (i + 6) S (by omega) (by omega) hS
    refine j_aload_n hE dL_law_27 rfl ?_
    refine j_iload_n hE dL_law_28 rfl ?_
    refine j_sld hE hX (by omega) hL dL_law_29 ?_
    refine j_bipush hE (nI 31) dL_law_30 (by decide) ?_
    refine j_iand hE dL_law_32 ?_
    rcases sw_31 (xs i &&& nI 31) with q | q | q | q | q | q | q | q | q | q | q | q | q | q | q | q | q | q | q | q | q | q | q | q | q | q | q | q | q | q | q | q
    · exact j_tabC hE 172 0 dL_law_33 q (by decide) (by decide) rfl (by decide) (lw_c0 hE hX hi6 hL hC hN hS)
    · exact j_tabC hE 195 1 dL_law_33 q (by decide) (by decide) rfl (by decide) (lw_c1 hE hX hi6 hL hC hN hS)
    · exact j_tabC hE 208 2 dL_law_33 q (by decide) (by decide) rfl (by decide) (lw_c2 hE hX hi6 hL hC hN hS)
    · exact j_tabC hE 221 3 dL_law_33 q (by decide) (by decide) rfl (by decide) (lw_c3 hE hX hi6 hL hC hN hS)
    · exact j_tabC hE 244 4 dL_law_33 q (by decide) (by decide) rfl (by decide) (lw_c4 hE hX hi6 hL hC hN hS)
    · exact j_tabC hE 267 5 dL_law_33 q (by decide) (by decide) rfl (by decide) (lw_c5 hE hX hi6 hL hC hN hS)
    · exact j_tabC hE 290 6 dL_law_33 q (by decide) (by decide) rfl (by decide) (lw_c6 hE hX hi6 hL hC hN hS)
    · exact j_tabC hE 323 7 dL_law_33 q (by decide) (by decide) rfl (by decide) (lw_c7 hE hX hi6 hL hC hN hS)
    · exact j_tabC hE 356 8 dL_law_33 q (by decide) (by decide) rfl (by decide) (lw_c8 hE hX hi6 hL hC hN hS)
    · exact j_tabC hE 389 9 dL_law_33 q (by decide) (by decide) rfl (by decide) (lw_c9 hE hX hi6 hL hC hN hS)
    · exact j_tabC hE 402 10 dL_law_33 q (by decide) (by decide) rfl (by decide) (lw_c10 hE hX hi6 hL hC hN hS)
    · exact j_tabC hE 425 11 dL_law_33 q (by decide) (by decide) rfl (by decide) (lw_c11 hE hX hi6 hL hC hN hS)
    · exact j_tabC hE 458 12 dL_law_33 q (by decide) (by decide) rfl (by decide) (lw_c12 hE hX hi6 hL hC hN hS)
    · exact j_tabC hE 481 13 dL_law_33 q (by decide) (by decide) rfl (by decide) (lw_c13 hE hX hi6 hL hC hN hS)
    · exact j_tabC hE 530 14 dL_law_33 q (by decide) (by decide) rfl (by decide) (lw_c14 hE hX hi6 hL hC hN hS)
    · exact j_tabC hE 553 15 dL_law_33 q (by decide) (by decide) rfl (by decide) (lw_c15 hE hX hi6 hL hC hN hS)
    · exact j_tabC hE 566 16 dL_law_33 q (by decide) (by decide) rfl (by decide) (lw_c16 hE hX hi6 hL hC hN hS)
    · exact j_tabC hE 599 17 dL_law_33 q (by decide) (by decide) rfl (by decide) (lw_c17 hE hX hi6 hL hC hN hS)
    · exact j_tabC hE 632 18 dL_law_33 q (by decide) (by decide) rfl (by decide) (lw_c18 hE hX hi6 hL hC hN hS)
    · exact j_tabC hE 695 19 dL_law_33 q (by decide) (by decide) rfl (by decide) (lw_c19 hE hX hi6 hL hC hN hS)
    · exact j_tabC hE 748 20 dL_law_33 q (by decide) (by decide) rfl (by decide) (lw_c20 hE hX hi6 hL hC hN hS)
    · exact j_tabC hE 771 21 dL_law_33 q (by decide) (by decide) rfl (by decide) (lw_c21 hE hX hi6 hL hC hN hS)
    · exact j_tabC hE 794 22 dL_law_33 q (by decide) (by decide) rfl (by decide) (lw_c22 hE hX hi6 hL hC hN hS)
    · exact j_tabC hE 807 23 dL_law_33 q (by decide) (by decide) rfl (by decide) (lw_c23 hE hX hi6 hL hC hN hS)
    · exact j_tabC hE 850 24 dL_law_33 q (by decide) (by decide) rfl (by decide) (lw_c24 hE hX hi6 hL hC hN hS)
    · exact j_tabC hE 883 25 dL_law_33 q (by decide) (by decide) rfl (by decide) (lw_c25 hE hX hi6 hL hC hN hS)
    · exact j_tabC hE 916 26 dL_law_33 q (by decide) (by decide) rfl (by decide) (lw_c26 hE hX hi6 hL hC hN hS)
    · exact j_tabC hE 929 27 dL_law_33 q (by decide) (by decide) rfl (by decide) (lw_c27 hE hX hi6 hL hC hN hS)
    · exact j_tabC hE 942 28 dL_law_33 q (by decide) (by decide) rfl (by decide) (lw_c28 hE hX hi6 hL hC hN hS)
    · exact j_tabC hE 965 29 dL_law_33 q (by decide) (by decide) rfl (by decide) (lw_c29 hE hX hi6 hL hC hN hS)
    · exact j_tabC hE 988 30 dL_law_33 q (by decide) (by decide) rfl (by decide) (lw_c30 hE hX hi6 hL hC hN hS)
    · exact j_tabOut hE 1011 dL_law_33 q (by decide) (hN S hS)
