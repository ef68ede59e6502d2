/-! what is done, step by step, keeps all alike -/
theorem R_now {T T' U U' : Sto} {pp sp hh ww nl nc nf u e nb n : Nat} (h : R T U pp sp hh ww nl nc nf u e nb n) (hT : ∀ i, (i < 3 ∨ (8 < i ∧ i ≠ 94)) → T' i = T i) (hU1 : ∀ k, k ≠ 11 → U' 114 k = U 114 k) (hU : ∀ i, 114 < i → i ≠ 119 → (i < 125 ∨ 127 < i) → U' i = U i) (hD : DM T' 3 (U' 119) (hh * ww) nl) (hZ : CZ T' 6) (hS : SDR T' U') : R T' U' pp sp hh ww nl nc nf u e nb n := by
  obtain ⟨a, b, c, d, f, g, i, j, k⟩ := h
  have := a.pl
  exact ⟨a.c (hT 0 (by omega)), (b.cT (hT _ (by omega)) (hT _ (by omega)) (hT _ (by omega)) (hT _ (by omega))).cU (fun k _ => hU1 k (by omega)) (hU _ (by omega) (by omega) (by omega)) (hU _ (by omega) (by omega) (by omega)) (hU _ (by omega) (by omega) (by omega)), hD, ⟨hZ, d.2.c (hT _ (by omega))⟩, hS, g.c (fun i _ h => hT i (by omega)) (hU1 _ (by omega)) (hU _ (by omega) (by omega) (by omega)), i.c (fun i _ h => hT i (by omega)) (hU _ (by omega) (by omega) (by omega)) (hU _ (by omega) (by omega) (by omega)), j.c (fun i _ h => hT i (by omega)) (hU1 _ (by omega)) (hU _ (by omega) (by omega) (by omega)) (hU _ (by omega) (by omega) (by omega)), k.c (hT _ (by omega)) (hT _ (by omega)) (hU1 _ (by omega)) (hU1 _ (by omega)) (hU _ (by omega) (by omega) (by omega))⟩
theorem R.rain {T U : Sto} {pp sp hh ww nl nc nf u e nb n r : Nat} (h : R T U pp sp hh ww nl nc nf u e nb n) (h0 : 0 < hh) (hr : r ≤ 9) : R (rainS T pp 3 6 nl nc (nI r)) (passS U (hh * ww) ww nl nc (nI r)) pp sp hh ww nl nc nf u e nb n := by
  have hp := h.1.pl
  obtain ⟨q1, q2⟩ := day_rel (dd := 3) (ff := 6) (by omega) (by omega) (by omega) h.2.1 h0 h.2.2.1 h.2.2.2.1.1 hr
  refine R_now h (fun i hi => rain_o (by omega) (by omega) (by omega) (by omega)) (fun k _ => by rw [pass_o (by omega)]) (fun i h1 h2 h3 => pass_o (by omega)) q1 q2 (h.2.2.2.2.1.c (by rw [rain_o (by omega) (by omega) (by omega) (by omega)]) (by rw [pass_o (by omega)]))
theorem R.look {T U : Sto} {pp sp hh ww nl nc nf u e nb n : Nat} (h : R T U pp sp hh ww nl nc nf u e nb n) (h0 : 0 < hh) : R (shrS T 3 pp) (mlookS U (hh * ww)) pp sp hh ww nl nc nf u e nb n := by
  have hp := h.1.pl
  have q1 := look_rel (dd := 3) (by omega) h.2.1 h0 h.2.2.1
  exact R_now h (fun i hi => shr_o (by omega) (by omega)) (fun k _ => by rw [mlook_o (by omega)]) (fun i h1 h2 h3 => mlook_o h2) q1 (h.2.2.2.1.1.c (shr_o (by omega) (by omega))) (h.2.2.2.2.1.c (by rw [shr_o (by omega) (by omega)]) (by rw [mlook_o (by omega)]))
theorem lcg_n {a : Nat} (ha : a < 2 ^ 31) : lcg (nI a) = nI ((a * 1103515245 + 12345) % 2147483648) := by
  unfold lcg
  rw [show (1103515245 : Int32) = nI 1103515245 from rfl, pk_mul, nI_add, pk_and _ 31 rfl, nI_toNat]
  apply congrArg nI
  rw [Nat.mod_mod_of_dvd _ (show 2 ^ 31 ∣ 2 ^ 32 from ⟨2, rfl⟩)]
theorem draw_n {a m : Nat} (ha : a < 2 ^ 31) (hm : 0 < m) (hm2 : m < 2 ^ 31) : drawF (nI a) (nI m) = nI (a / 65536 % m) := by
  unfold drawF
  rw [if_neg (nI_nle hm hm2)]
  exact mdr_n ha hm hm2
theorem R.sd {T U : Sto} {pp sp hh ww nl nc nf u e nb n : Nat} (h : R T U pp sp hh ww nl nc nf u e nb n) : ∃ a, a < 2 ^ 31 ∧ lcg (T 94 0) = nI a ∧ mlcg (U 114 11) = nI a ∧ R (up2 T 94 0 (nI a)) (up2 U 114 11 (nI a)) pp sp hh ww nl nc nf u e nb n := by
  obtain ⟨a, ha, e1, e2⟩ := h.2.2.2.2.1
  refine ⟨(a * 1103515245 + 12345) % 2147483648, Nat.mod_lt _ (by decide), by rw [e1, lcg_n ha], by rw [e2, mlcg_n ha], ?_⟩
  refine R_now h (fun i hi => up2_ne _ _ _ (by omega)) (fun k hk => by rw [up2_same, pk_un hk]) (fun i h1 h2 h3 => up2_ne _ _ _ (by omega)) ?_ (h.2.2.2.1.1.c (up2_ne _ _ _ (by omega))) ⟨_, Nat.mod_lt _ (by decide), by rw [up2_same, pk_us], by rw [up2_same, pk_us]⟩
  rw [up2_ne _ _ _ (by omega)]
  exact h.2.2.1.cT (up2_ne _ _ _ (by omega)) (up2_ne _ _ _ (by omega)) (up2_ne _ _ _ (by omega))
theorem DM.wnd {T : Sto} {dd nn nl : Nat} {f : Nat → Int32} (h : DM T dd f nn nl) (hn : nn ≤ 25) (hl : nl ≤ 4) (v : Int32) : DM (up2 T dd 2 v) dd (upd f 29 v) nn nl := by
  obtain ⟨a, b, c, d⟩ := h
  refine ⟨fun x hx => ?_, fun x hx hx2 => ?_, fun l hl' => ?_, ?_⟩
  · rw [up2_ne _ _ _ (by omega), pk_un (by omega)]; exact a x hx
  · rw [up2_ne _ _ _ (by omega)]; exact b x hx hx2
  · rw [up2_ne _ _ _ (by omega), pk_un (by omega)]; exact c l hl'
  · rw [up2_same, pk_us, pk_us, pk_un (by omega), pk_un (by omega), pk_un (by omega), pk_un (by omega), pk_un (by omega), pk_un (by omega), pk_un (by omega), pk_un (by omega)]
    exact ⟨rfl, d.2⟩
theorem DM.fil {T : Sto} {dd nn nl : Nat} {f : Nat → Int32} (h : DM T dd f nn nl) (hn : nn ≤ 25) (hl : nl ≤ 4) (v : Int32) : DM (up2 T dd 3 v) dd (upd f 30 v) nn nl := by
  obtain ⟨a, b, c, d⟩ := h
  refine ⟨fun x hx => ?_, fun x hx hx2 => ?_, fun l hl' => ?_, ?_⟩
  · rw [up2_ne _ _ _ (by omega), pk_un (by omega)]; exact a x hx
  · rw [up2_ne _ _ _ (by omega)]; exact b x hx hx2
  · rw [up2_ne _ _ _ (by omega), pk_un (by omega)]; exact c l hl'
  · rw [up2_same, pk_us, pk_us, pk_un (by omega), pk_un (by omega), pk_un (by omega), pk_un (by omega), pk_un (by omega), pk_un (by omega), pk_un (by omega), pk_un (by omega)]
    exact ⟨d.1, rfl, d.2.2⟩
theorem DM.led {T : Sto} {dd nn nl j x : Nat} {f : Nat → Int32} (h : DM T dd f nn nl) (hn : nn ≤ 25) (hl : nl ≤ 4) (hj : j < 4) (hx : x < nn) : DM (up2 T (dd + 2) j (nI x)) dd (upd f (25 + j) (nI x)) nn nl := by
  obtain ⟨a, b, c, d⟩ := h
  refine ⟨fun y hy => ?_, fun y hy hy2 => ?_, fun l hl' => ?_, ?_⟩
  · rw [up2_ne _ _ _ (by omega), pk_un (by omega)]; exact a y hy
  · rw [up2_ne _ _ _ (by omega)]; exact b y hy hy2
  · rw [up2_same]
    by_cases q : l = j
    · subst q
      rw [pk_us, pk_us]; exact ⟨rfl, x, hx, rfl⟩
    · rw [pk_un q, pk_un (by omega)]; exact c l hl'
  · rw [up2_ne _ _ _ (by omega), pk_un (by omega), pk_un (by omega), pk_un (by omega), pk_un (by omega), pk_un (by omega)]
    exact d
theorem DM.bru {T : Sto} {dd nn nl x : Nat} {f : Nat → Int32} (h : DM T dd f nn nl) (hn : nn ≤ 25) (hl : nl ≤ 4) (hx : x < nn) (v : Int32) : DM (up2 (up2 T (dd + 1) x (nI 0)) dd 6 v) dd (upd (upd f x (nI 0)) 33 v) nn nl := by
  obtain ⟨a, b, c, d⟩ := h
  refine ⟨fun y hy => ?_, fun y hy hy2 => ?_, fun l hl' => ?_, ?_⟩
  · rw [up2_ne _ _ _ (by omega), pk_un (by omega), up2_same]
    by_cases q : y = x
    · subst q
      rw [pk_us, pk_us]; exact ⟨rfl, 0, by omega, rfl⟩
    · rw [pk_un q, pk_un q]; exact a y hy
  · rw [up2_ne _ _ _ (by omega), up2_same, pk_un (by omega)]; exact b y hy hy2
  · rw [up2_ne _ _ _ (by omega), up2_ne _ _ _ (by omega), pk_un (by omega), pk_un (by omega)]; exact c l hl'
  · rw [up2_same, pk_us, pk_us, up2_ne _ _ _ (by omega)]
    rw [pk_un (show 2 ≠ 6 by omega), pk_un (show 3 ≠ 6 by omega), pk_un (show 4 ≠ 6 by omega), pk_un (show 5 ≠ 6 by omega)]
    rw [pk_un (show 29 ≠ 33 by omega), pk_un (show 29 ≠ x by omega), pk_un (show 30 ≠ 33 by omega), pk_un (show 30 ≠ x by omega), pk_un (show 31 ≠ 33 by omega), pk_un (show 31 ≠ x by omega), pk_un (show 32 ≠ 33 by omega), pk_un (show 32 ≠ x by omega)]
    exact ⟨d.1, d.2.1, d.2.2.1, d.2.2.2.1, rfl⟩
theorem R.wnd {T U : Sto} {pp sp hh ww nl nc nf u e nb n : Nat} (h : R T U pp sp hh ww nl nc nf u e nb n) (v : Int32) : R (up2 T 3 2 v) (up2 U 119 29 v) pp sp hh ww nl nc nf u e nb n := by
  refine R_now h (fun i hi => up2_ne _ _ _ (by omega)) (fun k hk => by rw [up2_ne _ _ _ (by omega)]) (fun i h1 h2 h3 => up2_ne _ _ _ h2) ?_ (h.2.2.2.1.1.c (up2_ne _ _ _ (by omega))) (h.2.2.2.2.1.c (by rw [up2_ne _ _ _ (by omega)]) (by rw [up2_ne _ _ _ (by omega)]))
  rw [up2_same]
  exact h.2.2.1.wnd h.2.1.n25 h.2.1.2.2.2.1.2.2.1 v
theorem R.fil {T U : Sto} {pp sp hh ww nl nc nf u e nb n : Nat} (h : R T U pp sp hh ww nl nc nf u e nb n) (v : Int32) : R (up2 T 3 3 v) (up2 U 119 30 v) pp sp hh ww nl nc nf u e nb n := by
  refine R_now h (fun i hi => up2_ne _ _ _ (by omega)) (fun k hk => by rw [up2_ne _ _ _ (by omega)]) (fun i h1 h2 h3 => up2_ne _ _ _ h2) ?_ (h.2.2.2.1.1.c (up2_ne _ _ _ (by omega))) (h.2.2.2.2.1.c (by rw [up2_ne _ _ _ (by omega)]) (by rw [up2_ne _ _ _ (by omega)]))
  rw [up2_same]
  exact h.2.2.1.fil h.2.1.n25 h.2.1.2.2.2.1.2.2.1 v
theorem R.led {T U : Sto} {pp sp hh ww nl nc nf u e nb n j x : Nat} (h : R T U pp sp hh ww nl nc nf u e nb n) (hj : j < 4) (hx : x < hh * ww) : R (up2 T 5 j (nI x)) (up2 U 119 (25 + j) (nI x)) pp sp hh ww nl nc nf u e nb n := by
  refine R_now h (fun i hi => up2_ne _ _ _ (by omega)) (fun k hk => by rw [up2_ne _ _ _ (by omega)]) (fun i h1 h2 h3 => up2_ne _ _ _ h2) ?_ (h.2.2.2.1.1.c (up2_ne _ _ _ (by omega))) (h.2.2.2.2.1.c (by rw [up2_ne _ _ _ (by omega)]) (by rw [up2_ne _ _ _ (by omega)]))
  rw [up2_same]
  exact h.2.2.1.led h.2.1.n25 h.2.1.2.2.2.1.2.2.1 hj hx
theorem R.bru {T U : Sto} {pp sp hh ww nl nc nf u e nb n x : Nat} (h : R T U pp sp hh ww nl nc nf u e nb n) (hx : x < hh * ww) (v : Int32) : R (up2 (up2 T 4 x (nI 0)) 3 6 v) (up2 (up2 U 119 x (nI 0)) 119 33 v) pp sp hh ww nl nc nf u e nb n := by
  refine R_now h (fun i hi => by rw [up2_ne _ _ _ (by omega), up2_ne _ _ _ (by omega)]) (fun k hk => by rw [up2_ne _ _ _ (by omega), up2_ne _ _ _ (by omega)]) (fun i h1 h2 h3 => by rw [up2_ne _ _ _ h2, up2_ne _ _ _ h2]) ?_ (h.2.2.2.1.1.c (by rw [up2_ne _ _ _ (by omega), up2_ne _ _ _ (by omega)])) (h.2.2.2.2.1.c (by rw [up2_ne _ _ _ (by omega), up2_ne _ _ _ (by omega)]) (by rw [up2_ne _ _ _ (by omega), up2_ne _ _ _ (by omega)]))
  rw [up2_same, up2_same]
  exact h.2.2.1.bru h.2.1.n25 h.2.1.2.2.2.1.2.2.1 hx v
/-! copies -/
theorem cop_at {S : Sto} {dd ee : Nat} (h : dd + 2 < ee ∨ ee + 2 < dd) : copS S dd ee (dd + 1) = cpN 25 (S (ee + 1)) (S (dd + 1)) ∧ copS S dd ee (dd + 2) = cpN 4 (S (ee + 2)) (S (dd + 2)) ∧ copS S dd ee dd 2 = S ee 2 ∧ copS S dd ee dd 3 = S ee 3 ∧ copS S dd ee dd 4 = S ee 4 ∧ copS S dd ee dd 5 = S ee 5 ∧ copS S dd ee dd 6 = S ee 6 := by
  unfold copS
  generalize h1 : upA S (dd + 1) (cpN 25 (S (ee + 1)) (S (dd + 1))) = S1
  have a0 : ∀ i, i ≠ dd + 1 → S1 i = S i := fun i hi => by rw [← h1, upA_ne _ _ hi]
  have a1 : S1 (dd + 1) = cpN 25 (S (ee + 1)) (S (dd + 1)) := by rw [← h1, upA_same]
  rw [a0 (ee + 2) (by omega), a0 (dd + 2) (by omega)]
  generalize h2 : upA S1 (dd + 2) (cpN 4 (S (ee + 2)) (S (dd + 2))) = S2
  have b0 : ∀ i, i ≠ dd + 2 → S2 i = S1 i := fun i hi => by rw [← h2, upA_ne _ _ hi]
  have b1 : S2 (dd + 2) = cpN 4 (S (ee + 2)) (S (dd + 2)) := by rw [← h2, upA_same]
  have c0 : S2 ee = S ee := by rw [b0 _ (by omega), a0 _ (by omega)]
  refine ⟨?_, ?_, ?_, ?_, ?_, ?_, ?_⟩
  · rw [up2_ne _ _ _ (by omega), up2_ne _ _ _ (by omega), up2_ne _ _ _ (by omega), up2_ne _ _ _ (by omega), up2_ne _ _ _ (by omega), b0 _ (by omega), a1]
  · rw [up2_ne _ _ _ (by omega), up2_ne _ _ _ (by omega), up2_ne _ _ _ (by omega), up2_ne _ _ _ (by omega), up2_ne _ _ _ (by omega), b1]
  · rw [up2_same, pk_un (by omega), up2_same, pk_un (by omega), up2_same, pk_un (by omega), up2_same, pk_un (by omega), up2_same, pk_us, c0]
  · rw [up2_same, pk_un (by omega), up2_same, pk_un (by omega), up2_same, pk_un (by omega), up2_same, pk_us, up2_ne _ _ _ (by omega), c0]
  · rw [up2_same, pk_un (by omega), up2_same, pk_un (by omega), up2_same, pk_us, up2_ne _ _ _ (by omega), up2_ne _ _ _ (by omega), c0]
  · rw [up2_same, pk_un (by omega), up2_same, pk_us, up2_ne _ _ _ (by omega), up2_ne _ _ _ (by omega), up2_ne _ _ _ (by omega), c0]
  · rw [up2_same, pk_us, up2_ne _ _ _ (by omega), up2_ne _ _ _ (by omega), up2_ne _ _ _ (by omega), up2_ne _ _ _ (by omega), c0]
theorem DM.cop {T : Sto} {dd ee nn nl : Nat} {f : Nat → Int32} (h : DM T ee f nn nl) (hd : dd + 2 < ee ∨ ee + 2 < dd) (hn : nn ≤ 25) (hl : nl ≤ 4) : DM (copS T dd ee) dd f nn nl := by
  obtain ⟨a, b, c, d⟩ := h
  obtain ⟨q1, q2, q3, q4, q5, q6, q7⟩ := cop_at (S := T) hd
  refine ⟨fun x hx => ?_, fun x hx hx2 => ?_, fun l hl' => ?_, ?_⟩
  · rw [q1, show cpN 25 (T (ee + 1)) (T (dd + 1)) x = T (ee + 1) x from if_pos (by omega)]; exact a x hx
  · rw [q1, show cpN 25 (T (ee + 1)) (T (dd + 1)) x = T (ee + 1) x from if_pos (by omega)]; exact b x hx hx2
  · rw [q2, show cpN 4 (T (ee + 2)) (T (dd + 2)) l = T (ee + 2) l from if_pos (by omega)]; exact c l hl'
  · rw [q3, q4, q5, q6, q7]; exact d
/-! the past -/
theorem push_41 {S : Sto} {e : Nat} : pushS S 3 e 41 1 = (if nI 16 ≤ S 41 1 + nI 1 then nI 0 else S 41 1 + nI 1) ∧ pushS S 3 e 41 2 = minF (nI 16) (S 41 2 + nI 1) := by
  have c : copS S (43 + 3 * e) 3 41 = S 41 := cop_o (by omega) (by omega) (by omega)
  unfold pushS
  rw [up2_same, pk_un (by omega), up2_same, pk_us, pk_us, c, pk_un (by omega)]
  exact ⟨rfl, rfl⟩
theorem push_r {S : Sto} {e i : Nat} (h : 42 < i) : pushS S 3 e i = copS S (43 + 3 * e) 3 i := by
  unfold pushS
  rw [up2_ne _ _ _ (by omega), up2_ne _ _ _ (by omega)]
theorem rem_128 {U : Sto} {u k j : Nat} (hu : u ≤ 16) (hj : j < 34) : (u < 16 → k < u → remS U u 128 (34 * k + j) = U 128 (34 * k + j)) ∧ (u = 16 → k < 15 → remS U u 128 (34 * k + j) = U 128 (34 * (k + 1) + j)) ∧ (k = remU u → remS U u 128 (34 * k + j) = U 119 j) := by
  have e0 : remS U u 128 = putW (remT U u 128) (U 119) (34 * remU u) 34 := by
    unfold remS
    rw [up2_ne _ _ _ (by omega), upA_same]
  rw [e0]
  unfold putW
  refine ⟨fun h1 h2 => ?_, fun h1 h2 => ?_, fun h1 => ?_⟩
  · have : remU u = u := if_neg (by omega)
    rw [this, if_neg (by omega)]
    unfold remT
    rw [if_neg (by omega)]
  · have : remU u = 15 := if_pos h1
    rw [this, if_neg (by omega)]
    unfold remT
    rw [if_pos h1, up2_ne _ _ _ (by omega), upA_same]
    unfold mshW
    rw [if_pos (by omega)]
    congr 1
    omega
  · rw [← h1, if_pos (by omega)]
    congr 1
    omega
theorem PST.push {T U : Sto} {nn nl u e : Nat} (h : PST T U nn nl u e) (hD : DM T 3 (U 119) nn nl) (hn : nn ≤ 25) (hl : nl ≤ 4) : PST (pushS T 3 e) (remS U u) nn nl (remU u + 1) ((e + 1) % 16) := by
  obtain ⟨a1, a2, a3, a4, a5, a6⟩ := h
  have hr : remU u ≤ 15 ∧ (u = 16 → remU u = 15) ∧ (u < 16 → remU u = u) := by
    unfold remU
    split <;> omega
  refine ⟨?_, ?_, by omega, ?_, Nat.mod_lt _ (by decide), fun k hk => ?_⟩
  · rw [push_41.2, a1, nI_add]
    unfold minF
    by_cases q : u = 16
    · rw [if_neg (nI_nlt (by omega) (by omega)), hr.2.1 q]
    · rw [hr.2.2 (by omega)]
      by_cases q2 : u = 15
      · subst q2
        rw [if_neg (nI_nlt (by omega) (by omega))]
      · rw [if_pos (nI_lt (by omega) (by omega))]
  · unfold remS
    rw [up2_same, pk_us]
  · rw [push_41.1, a4, nI_add]
    by_cases q : e = 15
    · subst q
      rw [if_pos (nI_le (by omega) (by omega))]
    · rw [if_neg (nI_ge (by omega) (by omega)), Nat.mod_eq_of_lt (by omega)]
  · have hm : ((e + 1) % 16 + 16 - (remU u + 1) + k) % 16 < 16 := Nat.mod_lt _ (by decide)
    by_cases q : k = remU u
    · have ei : ((e + 1) % 16 + 16 - (remU u + 1) + k) % 16 = e := by omega
      rw [ei]
      have d := (hD.cop (dd := 43 + 3 * e) (by omega) hn hl).cF (g := fun j => remS U u 128 (34 * k + j)) hn hl (fun j hj => (rem_128 a3 hj).2.2 q)
      exact d.cT (push_r (by omega)) (push_r (by omega)) (push_r (by omega))
    · by_cases q2 : u = 16
      · have ei : ((e + 1) % 16 + 16 - (remU u + 1) + k) % 16 = (e + 16 - u + (k + 1)) % 16 := by omega
        rw [ei]
        have ne : (e + 16 - u + (k + 1)) % 16 ≠ e := by omega
        have hm2 : (e + 16 - u + (k + 1)) % 16 < 16 := Nat.mod_lt _ (by decide)
        have d := (a6 (k + 1) (by omega)).cF (g := fun j => remS U u 128 (34 * k + j)) hn hl (fun j hj => (rem_128 a3 hj).2.1 q2 (by omega))
        exact d.cT (by rw [push_r (by omega), cop_o (by omega) (by omega) (by omega)]) (by rw [push_r (by omega), cop_o (by omega) (by omega) (by omega)]) (by rw [push_r (by omega), cop_o (by omega) (by omega) (by omega)])
      · have ei : ((e + 1) % 16 + 16 - (remU u + 1) + k) % 16 = (e + 16 - u + k) % 16 := by omega
        rw [ei]
        have ne : (e + 16 - u + k) % 16 ≠ e := by omega
        have hm2 : (e + 16 - u + k) % 16 < 16 := Nat.mod_lt _ (by decide)
        have d := (a6 k (by omega)).cF (g := fun j => remS U u 128 (34 * k + j)) hn hl (fun j hj => (rem_128 a3 hj).1 (by omega) (by omega))
        exact d.cT (by rw [push_r (by omega), cop_o (by omega) (by omega) (by omega)]) (by rw [push_r (by omega), cop_o (by omega) (by omega) (by omega)]) (by rw [push_r (by omega), cop_o (by omega) (by omega) (by omega)])
theorem R.psh {T U : Sto} {pp sp hh ww nl nc nf u e nb n : Nat} (h : R T U pp sp hh ww nl nc nf u e nb n) : R (pushS T 3 e) (remS U u) pp sp hh ww nl nc nf (remU u + 1) ((e + 1) % 16) nb n := by
  obtain ⟨a, b, c, d, f, g, i, j, k⟩ := h
  have he := g.2.2.2.2.1
  have := a.pl
  have hT : ∀ i, i < 41 ∨ 90 < i → pushS T 3 e i = T i := fun i hi => push_o he hi
  exact ⟨a.c (hT 0 (by omega)), (b.cT (hT _ (by omega)) (hT _ (by omega)) (hT _ (by omega)) (hT _ (by omega))).cU (fun k _ => rem_114 (by omega)) (rem_o (by omega) (by omega)) (rem_o (by omega) (by omega)) (rem_o (by omega) (by omega)), by rw [rem_o (by omega) (by omega)]; exact c.cT (hT _ (by omega)) (hT _ (by omega)) (hT _ (by omega)), ⟨d.1.c (hT _ (by omega)), d.2.c (hT _ (by omega))⟩, f.c (by rw [hT _ (by omega)]) (rem_114 (by omega)), g.push c b.n25 b.2.2.2.1.2.2.1, i.c (fun i _ h => hT i (by omega)) (rem_o (by omega) (by omega)) (rem_o (by omega) (by omega)), j.c (fun i _ h => hT i (by omega)) (rem_114 (by omega)) (rem_o (by omega) (by omega)) (rem_o (by omega) (by omega)), k.c (hT _ (by omega)) (hT _ (by omega)) (rem_114 (by omega)) (rem_114 (by omega)) (rem_o (by omega) (by omega))⟩
