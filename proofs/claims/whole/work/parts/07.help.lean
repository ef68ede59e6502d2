theorem kbipush_m10 : (Int8.ofInt (-10)).toInt32 = (-10) := by decide
theorem kbipush_m2 : (Int8.ofInt (-2)).toInt32 = (-2) := by decide
theorem kbipush_6 : (Int8.ofInt (6)).toInt32 = (nI 6) := by decide
theorem kbipush_8 : (Int8.ofInt (8)).toInt32 = (nI 8) := by decide
theorem kbipush_9 : (Int8.ofInt (9)).toInt32 = (nI 9) := by decide
theorem kbipush_10 : (Int8.ofInt (10)).toInt32 = (nI 10) := by decide
theorem kbipush_15 : (Int8.ofInt (15)).toInt32 = (nI 15) := by decide
theorem kbipush_16 : (Int8.ofInt (16)).toInt32 = (nI 16) := by decide
theorem kbipush_20 : (Int8.ofInt (20)).toInt32 = (nI 20) := by decide
theorem kbipush_25 : (Int8.ofInt (25)).toInt32 = (nI 25) := by decide
theorem kbipush_29 : (Int8.ofInt (29)).toInt32 = (nI 29) := by decide
theorem kbipush_30 : (Int8.ofInt (30)).toInt32 = (nI 30) := by decide
theorem kbipush_31 : (Int8.ofInt (31)).toInt32 = (nI 31) := by decide
theorem kbipush_32 : (Int8.ofInt (32)).toInt32 = (nI 32) := by decide
theorem kbipush_33 : (Int8.ofInt (33)).toInt32 = (nI 33) := by decide
theorem kbipush_34 : (Int8.ofInt (34)).toInt32 = (nI 34) := by decide
theorem kbipush_35 : (Int8.ofInt (35)).toInt32 = (nI 35) := by decide
theorem kbipush_44 : (Int8.ofInt (44)).toInt32 = (nI 44) := by decide
theorem kbipush_48 : (Int8.ofInt (48)).toInt32 = (nI 48) := by decide
theorem kbipush_57 : (Int8.ofInt (57)).toInt32 = (nI 57) := by decide
theorem kbipush_59 : (Int8.ofInt (59)).toInt32 = (nI 59) := by decide
theorem kbipush_60 : (Int8.ofInt (60)).toInt32 = (nI 60) := by decide
theorem kbipush_63 : (Int8.ofInt (63)).toInt32 = (nI 63) := by decide
theorem kbipush_70 : (Int8.ofInt (70)).toInt32 = (nI 70) := by decide
theorem kbipush_99 : (Int8.ofInt (99)).toInt32 = (nI 99) := by decide
theorem kbipush_100 : (Int8.ofInt (100)).toInt32 = (nI 100) := by decide
theorem kbipush_102 : (Int8.ofInt (102)).toInt32 = (nI 102) := by decide
theorem kbipush_108 : (Int8.ofInt (108)).toInt32 = (nI 108) := by decide
theorem kbipush_110 : (Int8.ofInt (110)).toInt32 = (nI 110) := by decide
theorem kbipush_119 : (Int8.ofInt (119)).toInt32 = (nI 119) := by decide
theorem kiconst_m1 : Int32.ofInt (-1) = (-1) := by decide
theorem kiconst_0 : Int32.ofInt (0) = (nI 0) := by decide
theorem kiconst_1 : Int32.ofInt (1) = (nI 1) := by decide
theorem kiconst_2 : Int32.ofInt (2) = (nI 2) := by decide
theorem kiconst_3 : Int32.ofInt (3) = (nI 3) := by decide
theorem kiconst_4 : Int32.ofInt (4) = (nI 4) := by decide
theorem kiconst_5 : Int32.ofInt (5) = (nI 5) := by decide
theorem ksipush_240 : (Int16.ofInt (240)).toInt32 = (nI 240) := by decide
theorem ksipush_255 : (Int16.ofInt (255)).toInt32 = (nI 255) := by decide
theorem ksipush_544 : (Int16.ofInt (544)).toInt32 = (nI 544) := by decide
theorem ksipush_9000 : (Int16.ofInt (9000)).toInt32 = (nI 9000) := by decide
theorem ksipush_10000 : (Int16.ofInt (10000)).toInt32 = (nI 10000) := by decide
theorem ksipush_12345 : (Int16.ofInt (12345)).toInt32 = (nI 12345) := by decide
theorem nI_inc (i : Nat) : nI i + Int32.ofInt 1 = nI (i + 1) := nI_1 i
theorem rf_o {S : Sto} {i ci k : Nat} (h : jsh i = (0, ci)) (hc : ci ≠ 9 ∧ ci ≠ 8 ∧ ci ≠ 10) : rf S i k = i + 1 + k := by
  have h0 : i ≠ 0 := fun q => by subst q; exact hc.1 (by cases h; rfl)
  have h9 : i ≠ 9 := fun q => by subst q; exact hc.2.1 (by cases h; rfl)
  have hm : i ≠ 114 := fun q => by subst q; exact hc.2.2 (by cases h; rfl)
  unfold rf
  rw [if_neg h0, if_neg h9, if_neg hm]
theorem nar_c {c : Prop} [Decidable c] : narrow .boolean (.int (if c then nI 1 else nI 0)) = .int (if c then nI 1 else nI 0) := by
  by_cases h : c
  · rw [if_pos h]; rfl
  · rw [if_neg h]; rfl
theorem zI_0 {c : Prop} [Decidable c] : (if c then nI 1 else nI 0) = 0 ↔ ¬ c := by
  by_cases h : c
  · rw [if_pos h]; exact ⟨fun q => absurd q (by decide), fun q => absurd h q⟩
  · rw [if_neg h]; exact ⟨fun _ => h, fun _ => by decide⟩
section Rows7
variable {l : Launch} {C : JC} {E : JE} {own : String} {cc : ByteArray} {d : Nat} {S : Sto} {pc : Nat} {lv : List (Option Value)} {st : List Value}
theorem j_ifeqP (hE : Jok l C E own cc d) {p : Prop} [Decidable p] {off : Int} (tgt : Nat) (hd : decode cc pc = .ok (.ifCond .eq off, 3)) (ht : (pc : Int) + off = (tgt : Int)) (kt : ¬ p → J C E S tgt lv st) (kf : p → J C E S (pc + 3) lv st) : J C E S pc lv (.int (if p then nI 1 else nI 0) :: st) :=
  j_ifeq hE tgt hd ht (fun h => kt (zI_0.mp h)) (fun h => kf (Decidable.not_not.mp (fun q => h (zI_0.mpr q))))
theorem j_ifneP (hE : Jok l C E own cc d) {p : Prop} [Decidable p] {off : Int} (tgt : Nat) (hd : decode cc pc = .ok (.ifCond .ne off, 3)) (ht : (pc : Int) + off = (tgt : Int)) (kt : p → J C E S tgt lv st) (kf : ¬ p → J C E S (pc + 3) lv st) : J C E S pc lv (.int (if p then nI 1 else nI 0) :: st) :=
  j_ifne hE tgt hd ht (fun h => kt (Decidable.not_not.mp (fun q => h (zI_0.mpr q)))) (fun h => kf (zI_0.mp h))
theorem j_cast {S' : Sto} {lv' : List (Option Value)} (h : S = S') (h2 : lv = lv') (k : J C E S' pc lv' st) : J C E S pc lv st := by subst h; subst h2; exact k
theorem j_tabC (hE : Jok l C E own cc d) {dflt lo hi : Int} {offs : Array Int} {len : Nat} {x : Int32} {off : Int} (tgt i : Nat) (hd : decode cc pc = .ok (.tableswitch dflt lo hi offs, len)) (hx : x = nI i) (h1 : ¬ (nI i).toInt < lo) (h2 : ¬ hi < (nI i).toInt) (ho : offs[((nI i).toInt - lo).toNat]? = some off) (ht : (pc : Int) + off = (tgt : Int)) (k : J C E S tgt lv st) : J C E S pc lv (.int x :: st) := by
  subst hx
  exact j_tabIn hE tgt hd h1 h2 ho ht k
end Rows7
theorem sw_out {x : Int32} {a b : Int} (h : x.toInt < a ∨ b < x.toInt) : x.toInt < a ∨ b < x.toInt := h
theorem i32_of {x : Int32} {n : Nat} (h : x.toInt = n) : x = nI n := by
  apply Int32.toInt_inj.mp
  have hb : x.toInt < 2 ^ 31 := Int32.toInt_lt x
  rw [h, nI_toInt (by omega)]
theorem sw_2 (x : Int32) : x = nI 0 ∨ x = nI 1 ∨ (x.toInt < 0 ∨ 1 < x.toInt) := by
  by_cases h : x.toInt < 0 ∨ 1 < x.toInt
  · right; right; exact h
  · have h0 : 0 ≤ x.toInt := by omega
    obtain ⟨j, hj⟩ := Int.eq_ofNat_of_zero_le h0
    have hx : x = nI j := i32_of hj
    have hj2 : j < 2 := by omega
    subst hx
    match j, hj2 with
    | 0, _ => left; exact rfl
    | 1, _ => right; left; exact rfl
    | j + 2, h => omega
theorem sw_3 (x : Int32) : x = nI 0 ∨ x = nI 1 ∨ x = nI 2 ∨ (x.toInt < 0 ∨ 2 < x.toInt) := by
  by_cases h : x.toInt < 0 ∨ 2 < x.toInt
  · right; right; right; exact h
  · have h0 : 0 ≤ x.toInt := by omega
    obtain ⟨j, hj⟩ := Int.eq_ofNat_of_zero_le h0
    have hx : x = nI j := i32_of hj
    have hj2 : j < 3 := by omega
    subst hx
    match j, hj2 with
    | 0, _ => left; exact rfl
    | 1, _ => right; left; exact rfl
    | 2, _ => right; right; left; exact rfl
    | j + 3, h => omega
theorem sw_4 (x : Int32) : x = nI 0 ∨ x = nI 1 ∨ x = nI 2 ∨ x = nI 3 ∨ (x.toInt < 0 ∨ 3 < x.toInt) := by
  by_cases h : x.toInt < 0 ∨ 3 < x.toInt
  · right; right; right; right; exact h
  · have h0 : 0 ≤ x.toInt := by omega
    obtain ⟨j, hj⟩ := Int.eq_ofNat_of_zero_le h0
    have hx : x = nI j := i32_of hj
    have hj2 : j < 4 := by omega
    subst hx
    match j, hj2 with
    | 0, _ => left; exact rfl
    | 1, _ => right; left; exact rfl
    | 2, _ => right; right; left; exact rfl
    | 3, _ => right; right; right; left; exact rfl
    | j + 4, h => omega
theorem sw_21 (x : Int32) : x = nI 0 ∨ x = nI 1 ∨ x = nI 2 ∨ x = nI 3 ∨ x = nI 4 ∨ x = nI 5 ∨ x = nI 6 ∨ x = nI 7 ∨ x = nI 8 ∨ x = nI 9 ∨ x = nI 10 ∨ x = nI 11 ∨ x = nI 12 ∨ x = nI 13 ∨ x = nI 14 ∨ x = nI 15 ∨ x = nI 16 ∨ x = nI 17 ∨ x = nI 18 ∨ x = nI 19 ∨ x = nI 20 ∨ (x.toInt < 0 ∨ 20 < x.toInt) := by
  by_cases h : x.toInt < 0 ∨ 20 < x.toInt
  · right; right; right; right; right; right; right; right; right; right; right; right; right; right; right; right; right; right; right; right; right; exact h
  · have h0 : 0 ≤ x.toInt := by omega
    obtain ⟨j, hj⟩ := Int.eq_ofNat_of_zero_le h0
    have hx : x = nI j := i32_of hj
    have hj2 : j < 21 := by omega
    subst hx
    match j, hj2 with
    | 0, _ => left; exact rfl
    | 1, _ => right; left; exact rfl
    | 2, _ => right; right; left; exact rfl
    | 3, _ => right; right; right; left; exact rfl
    | 4, _ => right; right; right; right; left; exact rfl
    | 5, _ => right; right; right; right; right; left; exact rfl
    | 6, _ => right; right; right; right; right; right; left; exact rfl
    | 7, _ => right; right; right; right; right; right; right; left; exact rfl
    | 8, _ => right; right; right; right; right; right; right; right; left; exact rfl
    | 9, _ => right; right; right; right; right; right; right; right; right; left; exact rfl
    | 10, _ => right; right; right; right; right; right; right; right; right; right; left; exact rfl
    | 11, _ => right; right; right; right; right; right; right; right; right; right; right; left; exact rfl
    | 12, _ => right; right; right; right; right; right; right; right; right; right; right; right; left; exact rfl
    | 13, _ => right; right; right; right; right; right; right; right; right; right; right; right; right; left; exact rfl
    | 14, _ => right; right; right; right; right; right; right; right; right; right; right; right; right; right; left; exact rfl
    | 15, _ => right; right; right; right; right; right; right; right; right; right; right; right; right; right; right; left; exact rfl
    | 16, _ => right; right; right; right; right; right; right; right; right; right; right; right; right; right; right; right; left; exact rfl
    | 17, _ => right; right; right; right; right; right; right; right; right; right; right; right; right; right; right; right; right; left; exact rfl
    | 18, _ => right; right; right; right; right; right; right; right; right; right; right; right; right; right; right; right; right; right; left; exact rfl
    | 19, _ => right; right; right; right; right; right; right; right; right; right; right; right; right; right; right; right; right; right; right; left; exact rfl
    | 20, _ => right; right; right; right; right; right; right; right; right; right; right; right; right; right; right; right; right; right; right; right; left; exact rfl
    | j + 21, h => omega
theorem sw_31 (x : Int32) : x = nI 0 ∨ x = nI 1 ∨ x = nI 2 ∨ x = nI 3 ∨ x = nI 4 ∨ x = nI 5 ∨ x = nI 6 ∨ x = nI 7 ∨ x = nI 8 ∨ x = nI 9 ∨ x = nI 10 ∨ x = nI 11 ∨ x = nI 12 ∨ x = nI 13 ∨ x = nI 14 ∨ x = nI 15 ∨ x = nI 16 ∨ x = nI 17 ∨ x = nI 18 ∨ x = nI 19 ∨ x = nI 20 ∨ x = nI 21 ∨ x = nI 22 ∨ x = nI 23 ∨ x = nI 24 ∨ x = nI 25 ∨ x = nI 26 ∨ x = nI 27 ∨ x = nI 28 ∨ x = nI 29 ∨ x = nI 30 ∨ (x.toInt < 0 ∨ 30 < x.toInt) := by
  by_cases h : x.toInt < 0 ∨ 30 < x.toInt
  · right; right; right; right; right; right; right; right; right; right; right; right; right; right; right; right; right; right; right; right; right; right; right; right; right; right; right; right; right; right; right; exact h
  · have h0 : 0 ≤ x.toInt := by omega
    obtain ⟨j, hj⟩ := Int.eq_ofNat_of_zero_le h0
    have hx : x = nI j := i32_of hj
    have hj2 : j < 31 := by omega
    subst hx
    match j, hj2 with
    | 0, _ => left; exact rfl
    | 1, _ => right; left; exact rfl
    | 2, _ => right; right; left; exact rfl
    | 3, _ => right; right; right; left; exact rfl
    | 4, _ => right; right; right; right; left; exact rfl
    | 5, _ => right; right; right; right; right; left; exact rfl
    | 6, _ => right; right; right; right; right; right; left; exact rfl
    | 7, _ => right; right; right; right; right; right; right; left; exact rfl
    | 8, _ => right; right; right; right; right; right; right; right; left; exact rfl
    | 9, _ => right; right; right; right; right; right; right; right; right; left; exact rfl
    | 10, _ => right; right; right; right; right; right; right; right; right; right; left; exact rfl
    | 11, _ => right; right; right; right; right; right; right; right; right; right; right; left; exact rfl
    | 12, _ => right; right; right; right; right; right; right; right; right; right; right; right; left; exact rfl
    | 13, _ => right; right; right; right; right; right; right; right; right; right; right; right; right; left; exact rfl
    | 14, _ => right; right; right; right; right; right; right; right; right; right; right; right; right; right; left; exact rfl
    | 15, _ => right; right; right; right; right; right; right; right; right; right; right; right; right; right; right; left; exact rfl
    | 16, _ => right; right; right; right; right; right; right; right; right; right; right; right; right; right; right; right; left; exact rfl
    | 17, _ => right; right; right; right; right; right; right; right; right; right; right; right; right; right; right; right; right; left; exact rfl
    | 18, _ => right; right; right; right; right; right; right; right; right; right; right; right; right; right; right; right; right; right; left; exact rfl
    | 19, _ => right; right; right; right; right; right; right; right; right; right; right; right; right; right; right; right; right; right; right; left; exact rfl
    | 20, _ => right; right; right; right; right; right; right; right; right; right; right; right; right; right; right; right; right; right; right; right; left; exact rfl
    | 21, _ => right; right; right; right; right; right; right; right; right; right; right; right; right; right; right; right; right; right; right; right; right; left; exact rfl
    | 22, _ => right; right; right; right; right; right; right; right; right; right; right; right; right; right; right; right; right; right; right; right; right; right; left; exact rfl
    | 23, _ => right; right; right; right; right; right; right; right; right; right; right; right; right; right; right; right; right; right; right; right; right; right; right; left; exact rfl
    | 24, _ => right; right; right; right; right; right; right; right; right; right; right; right; right; right; right; right; right; right; right; right; right; right; right; right; left; exact rfl
    | 25, _ => right; right; right; right; right; right; right; right; right; right; right; right; right; right; right; right; right; right; right; right; right; right; right; right; right; left; exact rfl
    | 26, _ => right; right; right; right; right; right; right; right; right; right; right; right; right; right; right; right; right; right; right; right; right; right; right; right; right; right; left; exact rfl
    | 27, _ => right; right; right; right; right; right; right; right; right; right; right; right; right; right; right; right; right; right; right; right; right; right; right; right; right; right; right; left; exact rfl
    | 28, _ => right; right; right; right; right; right; right; right; right; right; right; right; right; right; right; right; right; right; right; right; right; right; right; right; right; right; right; right; left; exact rfl
    | 29, _ => right; right; right; right; right; right; right; right; right; right; right; right; right; right; right; right; right; right; right; right; right; right; right; right; right; right; right; right; right; left; exact rfl
    | 30, _ => right; right; right; right; right; right; right; right; right; right; right; right; right; right; right; right; right; right; right; right; right; right; right; right; right; right; right; right; right; right; left; exact rfl
    | j + 31, h => omega
