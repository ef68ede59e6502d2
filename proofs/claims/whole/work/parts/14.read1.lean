/-- the reader's own numbers: kind of the fault, its place, the letter, the number's letter, wind told -/
abbrev Qr : Type := Nat × Int32 × Nat × Nat × Int32
def qrow (f : Nat → Int32) (n : Nat) (q : Qr) : Nat → Int32 := fun k => if k = 1 then nI n else if k = 2 then nI q.1 else if k = 3 then q.2.1 else if k = 4 then nI q.2.2.1 else if k = 5 then nI q.2.2.2.1 else if k = 6 then q.2.2.2.2 else f k
def RS (S : Sto) (n : Nat) (q : Qr) : Sto := upA S 1 (qrow (S 1) n q)
theorem RS_o {S : Sto} {n : Nat} {q : Qr} {i : Nat} (h : i ≠ 1) : RS S n q i = S i := upA_ne _ _ h
theorem RS_1 {S : Sto} {n : Nat} {q : Qr} : RS S n q 1 1 = nI n := by simp [RS, upA_same, qrow]
theorem RS_2 {S : Sto} {n : Nat} {q : Qr} : RS S n q 1 2 = nI q.1 := by simp [RS, upA_same, qrow]
theorem RS_3 {S : Sto} {n : Nat} {q : Qr} : RS S n q 1 3 = q.2.1 := by simp [RS, upA_same, qrow]
theorem RS_4 {S : Sto} {n : Nat} {q : Qr} : RS S n q 1 4 = nI q.2.2.1 := by simp [RS, upA_same, qrow]
theorem RS_5 {S : Sto} {n : Nat} {q : Qr} : RS S n q 1 5 = nI q.2.2.2.1 := by simp [RS, upA_same, qrow]
theorem RS_6 {S : Sto} {n : Nat} {q : Qr} : RS S n q 1 6 = q.2.2.2.2 := by simp [RS, upA_same, qrow]
theorem RS_u2 {S : Sto} {n k : Nat} {q : Qr} : up2 (RS S n q) 1 2 (nI k) = RS S n (k, q.2) := by
  unfold RS; rw [up2_upA]; congr 1; funext j; by_cases h : j = 2 <;> simp [upd, qrow, h]
theorem RS_u3 {S : Sto} {n : Nat} {q : Qr} {v : Int32} : up2 (RS S n q) 1 3 v = RS S n (q.1, v, q.2.2) := by
  unfold RS; rw [up2_upA]; congr 1; funext j; by_cases h : j = 3 <;> simp [upd, qrow, h]
theorem RS_u4 {S : Sto} {n a : Nat} {q : Qr} : up2 (RS S n q) 1 4 (nI a) = RS S n (q.1, q.2.1, a, q.2.2.2) := by
  unfold RS; rw [up2_upA]; congr 1; funext j; by_cases h : j = 4 <;> simp [upd, qrow, h]
theorem RS_u5 {S : Sto} {n a : Nat} {q : Qr} : up2 (RS S n q) 1 5 (nI a) = RS S n (q.1, q.2.1, q.2.2.1, a, q.2.2.2.2) := by
  unfold RS; rw [up2_upA]; congr 1; funext j; by_cases h : j = 5 <;> simp [upd, qrow, h]
theorem RS_u6 {S : Sto} {n : Nat} {q : Qr} {v : Int32} : up2 (RS S n q) 1 6 v = RS S n (q.1, q.2.1, q.2.2.1, q.2.2.2.1, v) := by
  unfold RS; rw [up2_upA]; congr 1; funext j; by_cases h : j = 6 <;> simp [upd, qrow, h]
theorem RS_up {S : Sto} {n : Nat} {q : Qr} {i k : Nat} {v : Int32} (h : i ≠ 1) : up2 (RS S n q) i k v = RS (up2 S i k v) n q := by
  unfold RS
  rw [up2_ne _ _ _ (fun z => h z.symm)]
  unfold up2
  rw [upA_ne _ _ h]
  funext j
  unfold upA
  by_cases h1 : j = i
  · subst h1; simp [h]
  · simp [h1]
theorem RS_upA {S : Sto} {n : Nat} {q : Qr} {i : Nat} {f : Nat → Int32} (h : i ≠ 1) : upA (RS S n q) i f = RS (upA S i f) n q := by
  unfold RS
  rw [upA_ne _ _ (fun z => h z.symm)]
  funext j
  unfold upA
  by_cases h1 : j = i
  · subst h1; simp [h]
  · simp [h1]
/-- over the blanks -/
def sk (t : Nat → Int32) (n : Nat) : Nat → Nat → Nat
  | 0, a => a
  | f + 1, a => if a < n ∧ t a = nI 32 then sk t n f (a + 1) else a
theorem sk_le (t : Nat → Int32) (n : Nat) : ∀ f a, sk t n f a ≤ a + f
  | 0, a => Nat.le_refl _
  | f + 1, a => by
    unfold sk
    split
    · have := sk_le t n f (a + 1)
      omega
    · omega
theorem sk_ge (t : Nat → Int32) (n : Nat) : ∀ f a, a ≤ sk t n f a
  | 0, a => Nat.le_refl _
  | f + 1, a => by
    unfold sk
    split
    · have := sk_ge t n f (a + 1)
      omega
    · omega
def skp (t : Nat → Int32) (n a : Nat) : Nat := sk t n (n - a) a
def cur (t : Nat → Int32) (n a : Nat) : Int32 := if a < n then t a else -1
def qAt (q : Qr) (a : Nat) : Qr := (q.1, q.2.1, a, q.2.2.2)
def qFail (q : Qr) (k : Nat) (w : Int32) : Qr := if q.1 = 0 then (k, w, q.2.2) else q
def qSkip (t : Nat → Int32) (n : Nat) (q : Qr) : Qr := qAt q (skp t n q.2.2.1)
def qBound (n : Nat) (q : Qr) : Prop := q.1 ≤ 4 ∧ q.2.2.1 ≤ n ∧ True
theorem nI_z {k : Nat} (h : k ≤ 1000) : nI k = 0 ↔ k = 0 := by
  constructor
  · intro q
    exact (nI_eq (by omega) (by omega)).mp (q.trans nI_0.symm)
  · intro q; subst q; rfl
theorem skp_ge {t : Nat → Int32} {n a : Nat} : a ≤ skp t n a := sk_ge t n _ _
theorem skp_le {t : Nat → Int32} {n a : Nat} (ha : a ≤ n) : skp t n a ≤ n := by
  have := sk_le t n (n - a) a
  unfold skp
  omega
theorem qB_fail {n : Nat} {q : Qr} {k : Nat} {w : Int32} (h : qBound n q) (hk : k ≤ 4) : qBound n (qFail q k w) := by
  unfold qFail
  split
  · exact ⟨hk, h.2⟩
  · exact h
theorem qB_skip {t : Nat → Int32} {n : Nat} {q : Qr} (h : qBound n q) : qBound n (qSkip t n q) := ⟨h.1, skp_le h.2.1, h.2.2⟩
def qWord (q : Qr) (b : Bool) : Qr := let q1 := if b = true then qFail q 3 (nI q.2.2.1) else q; qAt q1 (q1.2.2.1 + 1)
theorem qWord_t (q : Qr) : qWord q true = qAt (qFail q 3 (nI q.2.2.1)) ((qFail q 3 (nI q.2.2.1)).2.2.1 + 1) := rfl
theorem qWord_f (q : Qr) : qWord q false = qAt q (q.2.2.1 + 1) := rfl
abbrev okSign (t : Nat → Int32) (n : Nat) (q : Qr) (s : Int32) : Prop := q.1 = 0 ∧ cur t n (skp t n q.2.2.1) = s
def qSign (t : Nat → Int32) (n : Nat) (q : Qr) (s : Int32) : Qr := if q.1 = 0 then (if cur t n (skp t n q.2.2.1) = s then qAt (qSkip t n q) ((qSkip t n q).2.2.1 + 1) else qFail (qSkip t n q) 1 (nI (qSkip t n q).2.2.1)) else q
theorem fail_a (q : Qr) (k : Nat) (w : Int32) : (qFail q k w).2.2 = q.2.2 := by unfold qFail; split <;> rfl
theorem cur_lt {t : Nat → Int32} {n a : Nat} {s : Int32} (h : cur t n a = s) (hs : s ≠ -1) : a < n := by
  unfold cur at h
  split at h
  · assumption
  · exact absurd h.symm hs
theorem qB_word {n : Nat} {q : Qr} {b : Bool} (h : qBound n q) (ha : q.2.2.1 < n) : qBound n (qWord q b) := by
  cases b with
  | true =>
    have h2 := qB_fail (w := nI q.2.2.1) h (k := 3) (by decide)
    refine ⟨h2.1, ?_, h2.2.2⟩
    show (qFail q 3 (nI q.2.2.1)).2.2.1 + 1 ≤ n
    rw [fail_a]
    exact ha
  | false => exact ⟨h.1, ha, h.2.2⟩
theorem qB_sign {t : Nat → Int32} {n : Nat} {q : Qr} {s : Int32} (h : qBound n q) (hs : s ≠ -1) : qBound n (qSign t n q s) := by
  unfold qSign
  split
  · split
    · next c => exact ⟨h.1, cur_lt c hs, h.2.2⟩
    · exact qB_fail (qB_skip h) (by decide)
  · exact h
theorem ts1 {S : Sto} {n : Nat} {q : Qr} (hb : qBound n q) (h : ¬ q.1 = 0) (h2 : RS S n q 1 2 = 0) : False := by
  rw [RS_2] at h2
  exact h ((nI_z (Nat.le_trans hb.1 (by decide))).mp h2)
theorem ts2 {S : Sto} {n : Nat} {q : Qr} (h : q.1 = 0) (h2 : ¬ RS S n q 1 2 = 0) : False := by
  rw [RS_2, h] at h2
  exact h2 rfl
theorem fail_k {q : Qr} {k : Nat} {w : Int32} (hk : k ≠ 0) : ¬ (qFail q k w).1 = 0 := by
  unfold qFail
  split
  · exact hk
  · assumption
/-! numbers -/
abbrev isFg (x : Int32) : Prop := ¬ x < nI 48 ∧ ¬ nI 57 < x
def dgE (t : Nat → Int32) (n : Nat) : Nat → Nat → Nat
  | 0, p => p
  | f + 1, p => if p < n ∧ isFg (t p) then dgE t n f (p + 1) else p
theorem dgE_le (t : Nat → Int32) (n : Nat) : ∀ f p, dgE t n f p ≤ p + f
  | 0, p => Nat.le_refl _
  | f + 1, p => by
    unfold dgE
    split
    · have := dgE_le t n f (p + 1)
      omega
    · omega
def dge (t : Nat → Int32) (n p : Nat) : Nat := dgE t n (n - p) p
theorem dge_le {t : Nat → Int32} {n p : Nat} (h : p ≤ n) : dge t n p ≤ n := by
  have := dgE_le t n (n - p) p
  unfold dge
  omega
def numV (t : Nat → Int32) (s : Nat) : Nat → Nat
  | 0 => 0
  | k + 1 => numV t s k * 10 + min 9 ((t (s + k)).toNatClampNeg - 48)
theorem numV_b (t : Nat → Int32) (s : Nat) : ∀ k, numV t s k < 10 ^ k
  | 0 => by show 0 < 10 ^ 0; decide
  | k + 1 => by
    have := numV_b t s k
    unfold numV
    rw [Nat.pow_succ]
    omega
theorem fg_n {x : Int32} (h : isFg x) : ∃ d, d ≤ 9 ∧ x = nI (48 + d) := by
  obtain ⟨h1, h2⟩ := h
  obtain ⟨j, hj, rfl⟩ := nI_of (x := x) (fun q => h1 (by rw [Int32.lt_iff_toInt_lt] at q ⊢; exact Int.lt_trans q (by decide)))
  refine ⟨j - 48, ?_, ?_⟩
  · have : ¬ 57 < j := fun q => h2 (nI_lt q hj)
    omega
  · have : ¬ j < 48 := fun q => h1 (nI_lt q (by decide))
    rw [show 48 + (j - 48) = j by omega]
theorem num_step {x : Int32} (h : isFg x) (v : Nat) : nI v * nI 10 + x - nI 48 = nI (v * 10 + min 9 (x.toNatClampNeg - 48)) := by
  obtain ⟨d, hd, rfl⟩ := fg_n h
  rw [pk_mul, nI_add, pk_sub (by omega), nI_clamp (by omega), show v * 10 + (48 + d) - 48 = v * 10 + min 9 (48 + d - 48) by omega]
def qN (q : Qr) (s p : Nat) : Qr := (q.1, q.2.1, p, s, q.2.2.2.2)
theorem qB_N {n : Nat} {q : Qr} {s p : Nat} (h : qBound n q) (h1 : s ≤ n) (h2 : p ≤ n) : qBound n (qN q s p) := ⟨h.1, h2, trivial⟩
def tnM (t : Nat → Int32) (n : Nat) (q : Qr) : Nat := if q.1 = 0 ∧ isFg (cur t n (skp t n q.2.2.1)) then numV t (skp t n q.2.2.1) (min (dge t n (skp t n q.2.2.1) - skp t n q.2.2.1) 3) else 0
def tnQ (t : Nat → Int32) (n : Nat) (q : Qr) (lo hi : Int32) : Qr := if q.1 = 0 then (if isFg (cur t n (skp t n q.2.2.1)) then (if nI 3 < nI (dge t n (skp t n q.2.2.1)) - nI (skp t n q.2.2.1) ∨ nI (numV t (skp t n q.2.2.1) (min (dge t n (skp t n q.2.2.1) - skp t n q.2.2.1) 3)) < lo ∨ hi < nI (numV t (skp t n q.2.2.1) (min (dge t n (skp t n q.2.2.1) - skp t n q.2.2.1) 3)) then qFail (qN q (skp t n q.2.2.1) (dge t n (skp t n q.2.2.1))) 2 (nI (skp t n q.2.2.1)) else qN q (skp t n q.2.2.1) (dge t n (skp t n q.2.2.1))) else qFail (qSkip t n q) 1 (nI (qSkip t n q).2.2.1)) else q
theorem tnM_lt (t : Nat → Int32) (n : Nat) (q : Qr) : tnM t n q < 1000 := by
  unfold tnM
  split
  · have := numV_b t (skp t n q.2.2.1) (min (dge t n (skp t n q.2.2.1) - skp t n q.2.2.1) 3)
    have h2 : 10 ^ (min (dge t n (skp t n q.2.2.1) - skp t n q.2.2.1) 3) ≤ 10 ^ 3 := Nat.pow_le_pow_right (by decide) (Nat.min_le_right _ _)
    omega
  · decide
theorem qB_num {t : Nat → Int32} {n : Nat} {q : Qr} {lo hi : Int32} (h : qBound n q) : qBound n (tnQ t n q lo hi) := by
  unfold tnQ
  split
  · split
    · split
      · exact qB_fail (qB_N h (skp_le h.2.1) (dge_le (skp_le h.2.1))) (by decide)
      · exact qB_N h (skp_le h.2.1) (dge_le (skp_le h.2.1))
    · exact qB_fail (qB_skip h) (by decide)
  · exact h
theorem sub3_ge {s p : Nat} (h : s ≤ p) (hp : p < 2 ^ 31) (c : nI 3 ≤ nI p - nI s) : 3 ≤ p - s := by
  rw [pk_sub h] at c
  exact (nI_leI (by decide) (by omega)).mp c
theorem sub3_lt {s p : Nat} (h : s ≤ p) (hp : p < 2 ^ 31) (c : ¬ nI 3 ≤ nI p - nI s) : p - s < 3 := by
  rw [pk_sub h] at c
  exact Nat.lt_of_not_le (fun q => c (nI_le q (by omega)))
theorem numV_ge {t : Nat → Int32} {s p : Nat} (h : 3 ≤ p - s) : numV t s (min (p + 1 - s) 3) = numV t s (min (p - s) 3) := by
  rw [show min (p + 1 - s) 3 = min (p - s) 3 by omega]
theorem numV_lt {t : Nat → Int32} {s p : Nat} (h : p - s < 3) (hs : s ≤ p) (hf : isFg (t p)) : nI (numV t s (min (p + 1 - s) 3)) = nI (numV t s (min (p - s) 3)) * nI 10 + t p - nI 48 := by
  rw [num_step hf, show min (p + 1 - s) 3 = min (p - s) 3 + 1 by omega, numV, show s + min (p - s) 3 = p by omega]
theorem j_lookC {l : Launch} {C : JC} {E : JE} {own : String} {cc : ByteArray} {d : Nat} {S : Sto} {pc : Nat} {lv : List (Option Value)} {st : List Value} (hE : Jok l C E own cc d) {dflt : Int} {ps : Array (Int × Int)} {len : Nat} {x : Int32} {off : Int} (tgt i : Nat) (hd : decode cc pc = .ok (.lookupswitch dflt ps, len)) (hx : x = nI i) (hp : (ps.toList.zip (ps.toList.drop 1)).all (fun (a, next) => a.1 < next.1) = true) (ho : Op.lookupswitch.offset ps.toList dflt (nI i).toInt = off) (ht : (pc : Int) + off = (tgt : Int)) (k : J C E S tgt lv st) : J C E S pc lv (.int x :: st) := by
  subst hx
  exact j_look hE tgt hd hp ho ht k

set_option maxHeartbeats 4000000 in
set_option maxRecDepth 100000 in
theorem c_X8_isFigure (l : Launch) (C : JC) (hC : JInj C) (S : Sto) (x : Int32) : Con l C yX8_isFigure cX8_isFigure 1 (some .boolean) 1 [.int x] S (some (.int (if isFg x then nI 1 else nI 0))) (S) := by
  refine con_of RX8 0 [some (.int x)] (by decide) rfl hC (Nat.le_of_ble_eq_true rfl) rfl (Nat.le_of_ble_eq_true rfl) (fun E hE hR => ?_)
  refine j_iload0 hE dX8_isFigure_0 ?_
  refine j_bipush hE (nI 48) dX8_isFigure_1 kbipush_48 ?_
  refine j_icmplt hE 16 dX8_isFigure_3 (by decide) (fun c3 => ?_) (fun c3 => ?_)
  · skip
    refine j_iconst hE (nI 0) dX8_isFigure_16 kiconst_0 ?_
    exact j_zret hE hR dX8_isFigure_17 (by first
        | (rw [if_neg (fun z => z.1 c3)]; done)
        | (rw [if_neg (fun z => z.2 c9)]; done)
        | (rw [if_pos ⟨c3, c9⟩]; done)) (rfl) nar_c
  · skip
    refine j_iload0 hE dX8_isFigure_6 ?_
    refine j_bipush hE (nI 57) dX8_isFigure_7 kbipush_57 ?_
    refine j_icmpgt hE 16 dX8_isFigure_9 (by decide) (fun c9 => ?_) (fun c9 => ?_)
    · skip
      refine j_iconst hE (nI 0) dX8_isFigure_16 kiconst_0 ?_
      exact j_zret hE hR dX8_isFigure_17 (by first
          | (rw [if_neg (fun z => z.1 c3)]; done)
          | (rw [if_neg (fun z => z.2 c9)]; done)
          | (rw [if_pos ⟨c3, c9⟩]; done)) (rfl) nar_c
    · skip
      refine j_iconst hE (nI 1) dX8_isFigure_12 kiconst_1 ?_
      refine j_goto hE 17 dX8_isFigure_13 (by decide) ?_
      exact j_zret hE hR dX8_isFigure_17 (by first
          | (rw [if_neg (fun z => z.1 c3)]; done)
          | (rw [if_neg (fun z => z.2 c9)]; done)
          | (rw [if_pos ⟨c3, c9⟩]; done)) (rfl) nar_c

set_option maxHeartbeats 4000000 in
set_option maxRecDepth 100000 in
theorem c_X8_fail (l : Launch) (C : JC) (hC : JInj C) (S : Sto) (n : Nat) (hn : n ≤ 240) (q : Qr) (hb : qBound n q) (k : Nat) (w : Int32) : Con l C yX8_fail cX8_fail 3 none 1 [.ref (C.2.1 1), .int (nI k), .int w] (RS S n q) none (RS S n (qFail q k w)) := by
  refine con_of RX8 0 [some (.ref (C.2.1 1)), some (.int (nI k)), some (.int w)] (by decide) rfl hC (Nat.le_of_ble_eq_true rfl) rfl (Nat.le_of_ble_eq_true rfl) (fun E hE hR => ?_)
  refine j_aload0 hE dX8_fail_0 ?_
  refine j_geti hE fX8_30 dX8_fail_1 (by first | assumption | rfl) ?_
  refine j_ifne hE 17 dX8_fail_4 (by decide) (fun c4 => ?_) (fun c4 => ?_)
  · skip
    rw [RS_2] at c4
    have c4 : ¬ q.1 = 0 := fun z => c4 ((nI_z (Nat.le_trans hb.1 (by decide))).mpr z)
    exact j_vret hE hR dX8_fail_17 (by first | (rw [qFail, if_neg c4]; done) | (rw [qFail, if_pos c4, RS_u2, RS_u3]; done))
  · skip
    rw [RS_2] at c4
    have c4 :  q.1 = 0 := (nI_z (Nat.le_trans hb.1 (by decide))).mp c4
    refine j_aload0 hE dX8_fail_7 ?_
    refine j_iload1 hE dX8_fail_8 ?_
    refine j_puti hE pX8_30 dX8_fail_9 (by first | assumption | rfl) rfl rfl ?_
    refine j_aload0 hE dX8_fail_12 ?_
    refine j_iload2 hE dX8_fail_13 ?_
    refine j_puti hE pX8_15 dX8_fail_14 (by first | assumption | rfl) rfl rfl ?_
    exact j_vret hE hR dX8_fail_17 (by first | (rw [qFail, if_neg c4]; done) | (rw [qFail, if_pos c4, RS_u2, RS_u3]; done))

set_option maxHeartbeats 4000000 in
set_option maxRecDepth 100000 in
theorem c_X8_peek (l : Launch) (C : JC) (hC : JInj C) (S : Sto) (n : Nat) (hn : n ≤ 240) (q : Qr) (hb : qBound n q)  : Con l C yX8_peek cX8_peek 1 (some .int) 2 [.ref (C.2.1 1)] (RS S n q) (some (.int (cur (S 2) n (skp (S 2) n q.2.2.1)))) (RS S n (qSkip (S 2) n q)) := by
  refine con_of RX8 0 [some (.ref (C.2.1 1))] (by decide) rfl hC (Nat.le_of_ble_eq_true rfl) rfl (Nat.le_of_ble_eq_true rfl) (fun E hE hR => ?_)
  have L0 : ∀ (fu : Nat) (a : Nat), n - a < fu → (a ≤ n) → (sk (S 2) n (n - a) a = skp (S 2) n q.2.2.1) → J C E (RS S n (qAt q a)) 0 [some (.ref (C.2.1 1))] [] := by
    intro fu
    induction fu with
    | zero => intro a hm; omega
    | succ fu ih =>
      intro a hm hi hs
      refine j_aload0 hE dX8_peek_0 ?_
      refine j_geti hE fX8_27 dX8_peek_1 (by first | assumption | rfl) ?_
      refine j_aload0 hE dX8_peek_4 ?_
      refine j_geti hE fX8_19 dX8_peek_5 (by first | assumption | rfl) ?_
      refine j_icmpge hE 40 dX8_peek_8 (by decide) (fun c8 => ?_) (fun c8 => ?_)
      · skip
        rw [RS_1, RS_4] at c8
        have c8 : n ≤ a := (nI_leI (by omega) (by show a < _; omega)).mp c8
        have hs : a = skp (S 2) n q.2.2.1 := by
          rw [← hs, show n - a = 0 by omega]
          rfl
        refine j_aload0 hE dX8_peek_40 ?_
        refine j_geti hE fX8_27 dX8_peek_41 (by first | assumption | rfl) ?_
        refine j_aload0 hE dX8_peek_44 ?_
        refine j_geti hE fX8_19 dX8_peek_45 (by first | assumption | rfl) ?_
        refine j_icmpge hE 65 dX8_peek_48 (by decide) (fun c48 => ?_) (fun c48 => ?_)
        · skip
          rw [RS_1, RS_4] at c48
          have c48 : n ≤ a := (nI_leI (by omega) (by show a < _; omega)).mp c48
          refine j_iconst hE (-1) dX8_peek_65 kiconst_m1 ?_
          exact j_iret hE hR dX8_peek_66 (by first | (rw [← hs, cur, if_neg (by omega)]; done) | (rw [← hs, cur, if_pos c48]; done)) (by rw [qSkip, ← hs])
        · skip
          rw [RS_1, RS_4] at c48
          have c48 : a < n := Nat.lt_of_not_le (fun z => c48 (nI_le z (by show a < _; omega)))
          refine j_aload0 hE dX8_peek_51 ?_
          refine j_getr hE fX8_9 dX8_peek_52 (by first | assumption | rfl) (rf_o (by first | assumption | rfl) (by decide)) ?_
          refine j_aload0 hE dX8_peek_55 ?_
          refine j_geti hE fX8_27 dX8_peek_56 (by first | assumption | rfl) ?_
          refine j_SN2i hE mX8_125 (c_X10_pick l C hC _ 2 240 rfl (by decide) _) dX8_peek_59 (by decide) (Nat.le_of_ble_eq_true rfl) ?_
          refine j_top (y := S 2 a) (by rw [RS_4, RS_o (by decide)]; exact pickN (x := a) (by omega) (by decide)) ?_
          refine j_goto hE 66 dX8_peek_62 (by decide) ?_
          exact j_iret hE hR dX8_peek_66 (by first | (rw [← hs, cur, if_neg (by omega)]; done) | (rw [← hs, cur, if_pos c48]; done)) (by rw [qSkip, ← hs])
      · skip
        rw [RS_1, RS_4] at c8
        have c8 : a < n := Nat.lt_of_not_le (fun z => c8 (nI_le z (by show a < _; omega)))
        refine j_aload0 hE dX8_peek_11 ?_
        refine j_getr hE fX8_9 dX8_peek_12 (by first | assumption | rfl) (rf_o (by first | assumption | rfl) (by decide)) ?_
        refine j_aload0 hE dX8_peek_15 ?_
        refine j_geti hE fX8_27 dX8_peek_16 (by first | assumption | rfl) ?_
        refine j_SN2i hE mX8_125 (c_X10_pick l C hC _ 2 240 rfl (by decide) _) dX8_peek_19 (by decide) (Nat.le_of_ble_eq_true rfl) ?_
        refine j_top (y := S 2 a) (by rw [RS_4, RS_o (by decide)]; exact pickN (x := a) (by omega) (by decide)) ?_
        refine j_bipush hE (nI 32) dX8_peek_22 kbipush_32 ?_
        refine j_icmpne hE 40 dX8_peek_24 (by decide) (fun c24 => ?_) (fun c24 => ?_)
        · skip
          have hs : a = skp (S 2) n q.2.2.1 := by
            rw [← hs, show n - a = n - (a + 1) + 1 by omega, sk, if_neg (fun z => c24 z.2)]
          refine j_aload0 hE dX8_peek_40 ?_
          refine j_geti hE fX8_27 dX8_peek_41 (by first | assumption | rfl) ?_
          refine j_aload0 hE dX8_peek_44 ?_
          refine j_geti hE fX8_19 dX8_peek_45 (by first | assumption | rfl) ?_
          refine j_icmpge hE 65 dX8_peek_48 (by decide) (fun c48 => ?_) (fun c48 => ?_)
          · skip
            rw [RS_1, RS_4] at c48
            have c48 : n ≤ a := (nI_leI (by omega) (by show a < _; omega)).mp c48
            refine j_iconst hE (-1) dX8_peek_65 kiconst_m1 ?_
            exact j_iret hE hR dX8_peek_66 (by first | (rw [← hs, cur, if_neg (by omega)]; done) | (rw [← hs, cur, if_pos c48]; done)) (by rw [qSkip, ← hs])
          · skip
            rw [RS_1, RS_4] at c48
            have c48 : a < n := Nat.lt_of_not_le (fun z => c48 (nI_le z (by show a < _; omega)))
            refine j_aload0 hE dX8_peek_51 ?_
            refine j_getr hE fX8_9 dX8_peek_52 (by first | assumption | rfl) (rf_o (by first | assumption | rfl) (by decide)) ?_
            refine j_aload0 hE dX8_peek_55 ?_
            refine j_geti hE fX8_27 dX8_peek_56 (by first | assumption | rfl) ?_
            refine j_SN2i hE mX8_125 (c_X10_pick l C hC _ 2 240 rfl (by decide) _) dX8_peek_59 (by decide) (Nat.le_of_ble_eq_true rfl) ?_
            refine j_top (y := S 2 a) (by rw [RS_4, RS_o (by decide)]; exact pickN (x := a) (by omega) (by decide)) ?_
            refine j_goto hE 66 dX8_peek_62 (by decide) ?_
            exact j_iret hE hR dX8_peek_66 (by first | (rw [← hs, cur, if_neg (by omega)]; done) | (rw [← hs, cur, if_pos c48]; done)) (by rw [qSkip, ← hs])
        · skip
          refine j_aload0 hE dX8_peek_27 ?_
          refine j_dup hE dX8_peek_28 rfl ?_
          refine j_geti hE fX8_27 dX8_peek_29 (by first | assumption | rfl) ?_
          refine j_iconst hE (nI 1) dX8_peek_32 kiconst_1 ?_
          refine j_iadd hE dX8_peek_33 ?_
          refine j_puti hE pX8_27 dX8_peek_34 (by first | assumption | rfl) rfl rfl ?_
          refine j_goto hE 0 dX8_peek_37 (by decide) ?_
          exact j_cast (by rw [RS_4, nI_add, RS_u4]; rfl) rfl (ih (a + 1) (by omega) (by omega) (by rw [← hs, show n - a = n - (a + 1) + 1 by omega, sk, if_pos ⟨c8, c24⟩]))
  exact L0 (n - q.2.2.1 + 1) q.2.2.1 (by omega) hb.2.1 rfl

set_option maxHeartbeats 4000000 in
set_option maxRecDepth 100000 in
theorem c_X8_takeWord (l : Launch) (C : JC) (hC : JInj C) (S : Sto) (n : Nat) (hn : n ≤ 240) (q : Qr) (hb : qBound n q) (x : Int32) (b : Bool) (hx : b = !decide (x = 0)) : Con l C yX8_takeWord cX8_takeWord 2 none 2 [.ref (C.2.1 1), .int x] (RS S n q) none (RS S n (qWord q b)) := by
  refine con_of RX8 0 [some (.ref (C.2.1 1)), some (.int x)] (by decide) rfl hC (Nat.le_of_ble_eq_true rfl) rfl (Nat.le_of_ble_eq_true rfl) (fun E hE hR => ?_)
  refine j_iload1 hE dX8_takeWord_0 ?_
  refine j_ifeq hE 13 dX8_takeWord_1 (by decide) (fun c1 => ?_) (fun c1 => ?_)
  · skip
    have hx : b = false := by rw [hx]; simp [c1]
    subst hx
    refine j_aload0 hE dX8_takeWord_13 ?_
    refine j_dup hE dX8_takeWord_14 rfl ?_
    refine j_geti hE fX8_27 dX8_takeWord_15 (by first | assumption | rfl) ?_
    refine j_iconst hE (nI 1) dX8_takeWord_18 kiconst_1 ?_
    refine j_iadd hE dX8_takeWord_19 ?_
    refine j_puti hE pX8_27 dX8_takeWord_20 (by first | assumption | rfl) rfl rfl ?_
    exact j_vret hE hR dX8_takeWord_23 (by first | (rw [qWord_f, RS_4, nI_add, RS_u4]; rfl) | (rw [qWord_t, RS_4, RS_4, nI_add, RS_u4]; rfl))
  · skip
    have hx : b = true := by rw [hx]; simp [c1]
    subst hx
    refine j_aload0 hE dX8_takeWord_4 ?_
    refine j_iconst hE (nI 3) dX8_takeWord_5 kiconst_3 ?_
    refine j_aload0 hE dX8_takeWord_6 ?_
    refine j_geti hE fX8_27 dX8_takeWord_7 (by first | assumption | rfl) ?_
    refine j_V2v hE mX8_53 (c_X8_fail l C hC S n hn q hb 3 _) dX8_takeWord_10 (by first | assumption | rfl) (by decide) (Nat.le_of_ble_eq_true rfl) ?_
    refine j_aload0 hE dX8_takeWord_13 ?_
    refine j_dup hE dX8_takeWord_14 rfl ?_
    refine j_geti hE fX8_27 dX8_takeWord_15 (by first | assumption | rfl) ?_
    refine j_iconst hE (nI 1) dX8_takeWord_18 kiconst_1 ?_
    refine j_iadd hE dX8_takeWord_19 ?_
    refine j_puti hE pX8_27 dX8_takeWord_20 (by first | assumption | rfl) rfl rfl ?_
    exact j_vret hE hR dX8_takeWord_23 (by first | (rw [qWord_f, RS_4, nI_add, RS_u4]; rfl) | (rw [qWord_t, RS_4, RS_4, nI_add, RS_u4]; rfl))

set_option maxHeartbeats 4000000 in
set_option maxRecDepth 100000 in
theorem c_X8_takeSign (l : Launch) (C : JC) (hC : JInj C) (S : Sto) (n : Nat) (hn : n ≤ 240) (q : Qr) (hb : qBound n q) (s : Int32) : Con l C yX8_takeSign cX8_takeSign 2 (some .boolean) 3 [.ref (C.2.1 1), .int s] (RS S n q) (some (.int (if okSign (S 2) n q s then nI 1 else nI 0))) (RS S n (qSign (S 2) n q s)) := by
  refine con_of RX8 0 [some (.ref (C.2.1 1)), some (.int s)] (by decide) rfl hC (Nat.le_of_ble_eq_true rfl) rfl (Nat.le_of_ble_eq_true rfl) (fun E hE hR => ?_)
  refine j_aload0 hE dX8_takeSign_0 ?_
  refine j_geti hE fX8_30 dX8_takeSign_1 (by first | assumption | rfl) ?_
  refine j_ifne hE 24 dX8_takeSign_4 (by decide) (fun c4 => ?_) (fun c4 => ?_)
  · skip
    rw [RS_2] at c4
    have c4 : ¬ (q).1 = 0 := fun z => c4 ((nI_z (Nat.le_trans hb.1 (by decide))).mpr z)
    refine j_aload0 hE dX8_takeSign_24 ?_
    refine j_geti hE fX8_30 dX8_takeSign_25 (by first | assumption | rfl) ?_
    refine j_ifeq hE 33 dX8_takeSign_28 (by decide) (fun c28 => ?_) (fun c28 => ?_)
    · skip
      exact (ts1 hb c4 c28).elim
    · skip
      refine j_iconst hE (nI 0) dX8_takeSign_31 kiconst_0 ?_
      exact j_zret hE hR dX8_takeSign_32 (by first
          | (rw [if_neg (fun z => c4 z.1)]; done)
          | (rw [if_neg (fun z => c12 z.2)]; done)) (by first
          | (rw [qSign, if_neg c4]; done)
          | (rw [qSign, if_pos c4, if_neg c12, RS_4]; done)
          | (rw [qSign, if_pos c4, if_neg c12, RS_4]; rfl)) nar_c
  · skip
    rw [RS_2] at c4
    have c4 : (q).1 = 0 := (nI_z (Nat.le_trans hb.1 (by decide))).mp c4
    refine j_aload0 hE dX8_takeSign_7 ?_
    refine j_V0i hE mX8_42 (c_X8_peek l C hC S n hn q hb) dX8_takeSign_8 (by first | assumption | rfl) (by decide) (Nat.le_of_ble_eq_true rfl) ?_
    refine j_iload1 hE dX8_takeSign_11 ?_
    refine j_icmpeq hE 24 dX8_takeSign_12 (by decide) (fun c12 => ?_) (fun c12 => ?_)
    · skip
      refine j_aload0 hE dX8_takeSign_24 ?_
      refine j_geti hE fX8_30 dX8_takeSign_25 (by first | assumption | rfl) ?_
      refine j_ifeq hE 33 dX8_takeSign_28 (by decide) (fun c28 => ?_) (fun c28 => ?_)
      · skip
        refine j_aload0 hE dX8_takeSign_33 ?_
        refine j_dup hE dX8_takeSign_34 rfl ?_
        refine j_geti hE fX8_27 dX8_takeSign_35 (by first | assumption | rfl) ?_
        refine j_iconst hE (nI 1) dX8_takeSign_38 kiconst_1 ?_
        refine j_iadd hE dX8_takeSign_39 ?_
        refine j_puti hE pX8_27 dX8_takeSign_40 (by first | assumption | rfl) rfl rfl ?_
        refine j_iconst hE (nI 1) dX8_takeSign_43 kiconst_1 ?_
        exact j_zret hE hR dX8_takeSign_44 (by rw [if_pos ⟨c4, c12⟩]) (by rw [qSign, if_pos c4, if_pos c12, RS_4, nI_add, RS_u4]; rfl) nar_c
      · skip
        exact (ts2 (q := qSkip (S 2) n q) c4 c28).elim
    · skip
      refine j_aload0 hE dX8_takeSign_15 ?_
      refine j_iconst hE (nI 1) dX8_takeSign_16 kiconst_1 ?_
      refine j_aload0 hE dX8_takeSign_17 ?_
      refine j_geti hE fX8_27 dX8_takeSign_18 (by first | assumption | rfl) ?_
      refine j_V2v hE mX8_53 (c_X8_fail l C hC S n hn _ (qB_skip hb) 1 _) dX8_takeSign_21 (by first | assumption | rfl) (by decide) (Nat.le_of_ble_eq_true rfl) ?_
      refine j_aload0 hE dX8_takeSign_24 ?_
      refine j_geti hE fX8_30 dX8_takeSign_25 (by first | assumption | rfl) ?_
      refine j_ifeq hE 33 dX8_takeSign_28 (by decide) (fun c28 => ?_) (fun c28 => ?_)
      · skip
        exact (ts1 (qB_fail (qB_skip hb) (by decide)) (fail_k (by decide)) c28).elim
      · skip
        refine j_iconst hE (nI 0) dX8_takeSign_31 kiconst_0 ?_
        exact j_zret hE hR dX8_takeSign_32 (by first
            | (rw [if_neg (fun z => c4 z.1)]; done)
            | (rw [if_neg (fun z => c12 z.2)]; done)) (by first
            | (rw [qSign, if_neg c4]; done)
            | (rw [qSign, if_pos c4, if_neg c12, RS_4]; done)
            | (rw [qSign, if_pos c4, if_neg c12, RS_4]; rfl)) nar_c

set_option maxHeartbeats 4000000 in
set_option maxRecDepth 100000 in
theorem c_X8_takeNumber (l : Launch) (C : JC) (hC : JInj C) (S : Sto) (n : Nat) (hn : n ≤ 240) (q : Qr) (hb : qBound n q) (lo hi : Int32) : Con l C yX8_takeNumber cX8_takeNumber 4 (some .int) 3 [.ref (C.2.1 1), .int lo, .int hi] (RS S n q) (some (.int (nI (tnM (S 2) n q)))) (RS S n (tnQ (S 2) n q lo hi)) := by
  refine con_of RX8 1 [some (.ref (C.2.1 1)), some (.int lo), some (.int hi), none] (by decide) rfl hC (Nat.le_of_ble_eq_true rfl) rfl (Nat.le_of_ble_eq_true rfl) (fun E hE hR => ?_)
  refine j_aload0 hE dX8_takeNumber_0 ?_
  refine j_geti hE fX8_30 dX8_takeNumber_1 (by first | assumption | rfl) ?_
  refine j_ifne hE 26 dX8_takeNumber_4 (by decide) (fun c4 => ?_) (fun c4 => ?_)
  · skip
    rw [RS_2] at c4
    have c4 : ¬ (q).1 = 0 := fun z => c4 ((nI_z (Nat.le_trans hb.1 (by decide))).mpr z)
    refine j_aload0 hE dX8_takeNumber_26 ?_
    refine j_geti hE fX8_30 dX8_takeNumber_27 (by first | assumption | rfl) ?_
    refine j_ifeq hE 35 dX8_takeNumber_30 (by decide) (fun c30 => ?_) (fun c30 => ?_)
    · skip
      exact (ts1 hb c4 c30).elim
    · skip
      refine j_iconst hE (nI 0) dX8_takeNumber_33 kiconst_0 ?_
      exact j_iret hE hR dX8_takeNumber_34 (by first | (rw [tnM, if_neg (fun z => c4 z.1)]; done) | (rw [tnM, if_neg (fun z => c14 z.2)]; done)) (by first | (rw [tnQ, if_neg c4]; done) | (rw [tnQ, if_pos c4, if_neg c14, RS_4]; done) | (rw [tnQ, if_pos c4, if_neg c14, RS_4]; rfl))
  · skip
    rw [RS_2] at c4
    have c4 : (q).1 = 0 := (nI_z (Nat.le_trans hb.1 (by decide))).mp c4
    refine j_aload0 hE dX8_takeNumber_7 ?_
    refine j_V0i hE mX8_42 (c_X8_peek l C hC S n hn q hb) dX8_takeNumber_8 (by first | assumption | rfl) (by decide) (Nat.le_of_ble_eq_true rfl) ?_
    refine j_S1i hE mX8_129 (c_X8_isFigure l C hC _ _) dX8_takeNumber_11 (by decide) (Nat.le_of_ble_eq_true rfl) ?_
    first | refine j_ifneP hE 26 dX8_takeNumber_14 (by decide) (fun c14 => ?_) (fun c14 => ?_) | refine j_ifne hE 26 dX8_takeNumber_14 (by decide) (fun c14 => ?_) (fun c14 => ?_)
    · skip
      refine j_aload0 hE dX8_takeNumber_26 ?_
      refine j_geti hE fX8_30 dX8_takeNumber_27 (by first | assumption | rfl) ?_
      refine j_ifeq hE 35 dX8_takeNumber_30 (by decide) (fun c30 => ?_) (fun c30 => ?_)
      · skip
        refine j_aload0 hE dX8_takeNumber_35 ?_
        refine j_aload0 hE dX8_takeNumber_36 ?_
        refine j_geti hE fX8_27 dX8_takeNumber_37 (by first | assumption | rfl) ?_
        refine j_puti hE pX8_107 dX8_takeNumber_40 (by first | assumption | rfl) rfl rfl ?_
        refine j_eqS (S' := RS S n (qN q (skp (S 2) n q.2.2.1) (skp (S 2) n q.2.2.1))) (by rw [RS_4, RS_u5]; rfl) ?_
        refine j_iconst hE (nI 0) dX8_takeNumber_43 kiconst_0 ?_
        refine j_istore3 hE dX8_takeNumber_44 rfl ?_
        have L45 : ∀ (fu : Nat) (p : Nat), n - p < fu → (p ≤ n) → (skp (S 2) n q.2.2.1 ≤ p) → (dgE (S 2) n (n - p) p = dge (S 2) n (skp (S 2) n q.2.2.1)) → J C E (RS S n (qN q (skp (S 2) n q.2.2.1) p)) 45 [some (.ref (C.2.1 1)), some (.int lo), some (.int hi), some (.int (nI (numV (S 2) (skp (S 2) n q.2.2.1) (min (p - skp (S 2) n q.2.2.1) 3))))] [] := by
          intro fu
          induction fu with
          | zero => intro p hm; omega
          | succ fu ih =>
            intro p hm hi hsp he
            refine j_aload0 hE dX8_takeNumber_45 ?_
            refine j_geti hE fX8_27 dX8_takeNumber_46 (by first | assumption | rfl) ?_
            refine j_aload0 hE dX8_takeNumber_49 ?_
            refine j_geti hE fX8_19 dX8_takeNumber_50 (by first | assumption | rfl) ?_
            refine j_icmpge hE 119 dX8_takeNumber_53 (by decide) (fun c53 => ?_) (fun c53 => ?_)
            · skip
              rw [RS_1, RS_4] at c53
              have c53 : n ≤ p := (nI_leI (by omega) (by show p < _; omega)).mp c53
              have hE2 : p = dge (S 2) n (skp (S 2) n q.2.2.1) := by
                rw [← he, show n - p = 0 by omega]
                rfl
              refine j_aload0 hE dX8_takeNumber_119 ?_
              refine j_geti hE fX8_27 dX8_takeNumber_120 (by first | assumption | rfl) ?_
              refine j_aload0 hE dX8_takeNumber_123 ?_
              refine j_geti hE fX8_107 dX8_takeNumber_124 (by first | assumption | rfl) ?_
              refine j_isub hE dX8_takeNumber_127 ?_
              refine j_iconst hE (nI 3) dX8_takeNumber_128 kiconst_3 ?_
              refine j_icmpgt hE 141 dX8_takeNumber_129 (by decide) (fun c129 => ?_) (fun c129 => ?_)
              · skip
                rw [RS_4, RS_5] at c129
                have c129 : nI 3 < nI p - nI (skp (S 2) n q.2.2.1) := c129
                refine j_aload0 hE dX8_takeNumber_141 ?_
                refine j_iconst hE (nI 2) dX8_takeNumber_142 kiconst_2 ?_
                refine j_aload0 hE dX8_takeNumber_143 ?_
                refine j_geti hE fX8_107 dX8_takeNumber_144 (by first | assumption | rfl) ?_
                refine j_V2v hE mX8_53 (c_X8_fail l C hC S n hn _ (qB_N hb (by omega) (by omega)) 2 _) dX8_takeNumber_147 (by first | assumption | rfl) (by decide) (Nat.le_of_ble_eq_true rfl) ?_
                refine j_iload3 hE dX8_takeNumber_150 ?_
                exact j_iret hE hR dX8_takeNumber_151 (by rw [tnM, if_pos ⟨c4, c14⟩, ← hE2]) (by first
                    | (rw [tnQ, if_pos c4, if_pos c14, ← hE2, if_pos (Or.inl c129), RS_5]; rfl)
                    | (rw [tnQ, if_pos c4, if_pos c14, ← hE2, if_pos (Or.inr c138), RS_5]; rfl)
                    | (rw [tnQ, if_pos c4, if_pos c14, ← hE2, if_neg (fun z => z.elim c129 c138)]; done))
              · skip
                rw [RS_4, RS_5] at c129
                have c129 : ¬ nI 3 < nI p - nI (skp (S 2) n q.2.2.1) := c129
                refine j_iload3 hE dX8_takeNumber_132 ?_
                refine j_iload1 hE dX8_takeNumber_133 ?_
                refine j_iload2 hE dX8_takeNumber_134 ?_
                refine j_SN3i hE mX8_132 (c_X10_outside l C hC _ _ _ _) dX8_takeNumber_135 (by decide) (Nat.le_of_ble_eq_true rfl) ?_
                first | refine j_ifeqP hE 150 dX8_takeNumber_138 (by decide) (fun c138 => ?_) (fun c138 => ?_) | refine j_ifeq hE 150 dX8_takeNumber_138 (by decide) (fun c138 => ?_) (fun c138 => ?_)
                · skip
                  refine j_iload3 hE dX8_takeNumber_150 ?_
                  exact j_iret hE hR dX8_takeNumber_151 (by rw [tnM, if_pos ⟨c4, c14⟩, ← hE2]) (by first
                      | (rw [tnQ, if_pos c4, if_pos c14, ← hE2, if_pos (Or.inl c129), RS_5]; rfl)
                      | (rw [tnQ, if_pos c4, if_pos c14, ← hE2, if_pos (Or.inr c138), RS_5]; rfl)
                      | (rw [tnQ, if_pos c4, if_pos c14, ← hE2, if_neg (fun z => z.elim c129 c138)]; done))
                · skip
                  refine j_aload0 hE dX8_takeNumber_141 ?_
                  refine j_iconst hE (nI 2) dX8_takeNumber_142 kiconst_2 ?_
                  refine j_aload0 hE dX8_takeNumber_143 ?_
                  refine j_geti hE fX8_107 dX8_takeNumber_144 (by first | assumption | rfl) ?_
                  refine j_V2v hE mX8_53 (c_X8_fail l C hC S n hn _ (qB_N hb (by omega) (by omega)) 2 _) dX8_takeNumber_147 (by first | assumption | rfl) (by decide) (Nat.le_of_ble_eq_true rfl) ?_
                  refine j_iload3 hE dX8_takeNumber_150 ?_
                  exact j_iret hE hR dX8_takeNumber_151 (by rw [tnM, if_pos ⟨c4, c14⟩, ← hE2]) (by first
                      | (rw [tnQ, if_pos c4, if_pos c14, ← hE2, if_pos (Or.inl c129), RS_5]; rfl)
                      | (rw [tnQ, if_pos c4, if_pos c14, ← hE2, if_pos (Or.inr c138), RS_5]; rfl)
                      | (rw [tnQ, if_pos c4, if_pos c14, ← hE2, if_neg (fun z => z.elim c129 c138)]; done))
            · skip
              rw [RS_1, RS_4] at c53
              have c53 : p < n := Nat.lt_of_not_le (fun z => c53 (nI_le z (by show p < _; omega)))
              refine j_aload0 hE dX8_takeNumber_56 ?_
              refine j_getr hE fX8_9 dX8_takeNumber_57 (by first | assumption | rfl) (rf_o (by first | assumption | rfl) (by decide)) ?_
              refine j_aload0 hE dX8_takeNumber_60 ?_
              refine j_geti hE fX8_27 dX8_takeNumber_61 (by first | assumption | rfl) ?_
              refine j_SN2i hE mX8_125 (c_X10_pick l C hC _ 2 240 rfl (by decide) _) dX8_takeNumber_64 (by decide) (Nat.le_of_ble_eq_true rfl) ?_
              refine j_top (y := S 2 p) (by rw [RS_4, RS_o (by decide)]; exact pickN (x := p) (by omega) (by decide)) ?_
              refine j_S1i hE mX8_129 (c_X8_isFigure l C hC _ _) dX8_takeNumber_67 (by decide) (Nat.le_of_ble_eq_true rfl) ?_
              first | refine j_ifeqP hE 119 dX8_takeNumber_70 (by decide) (fun c70 => ?_) (fun c70 => ?_) | refine j_ifeq hE 119 dX8_takeNumber_70 (by decide) (fun c70 => ?_) (fun c70 => ?_)
              · skip
                have hE2 : p = dge (S 2) n (skp (S 2) n q.2.2.1) := by
                  rw [← he, show n - p = n - (p + 1) + 1 by omega, dgE, if_neg (fun z => c70 z.2)]
                refine j_aload0 hE dX8_takeNumber_119 ?_
                refine j_geti hE fX8_27 dX8_takeNumber_120 (by first | assumption | rfl) ?_
                refine j_aload0 hE dX8_takeNumber_123 ?_
                refine j_geti hE fX8_107 dX8_takeNumber_124 (by first | assumption | rfl) ?_
                refine j_isub hE dX8_takeNumber_127 ?_
                refine j_iconst hE (nI 3) dX8_takeNumber_128 kiconst_3 ?_
                refine j_icmpgt hE 141 dX8_takeNumber_129 (by decide) (fun c129 => ?_) (fun c129 => ?_)
                · skip
                  rw [RS_4, RS_5] at c129
                  have c129 : nI 3 < nI p - nI (skp (S 2) n q.2.2.1) := c129
                  refine j_aload0 hE dX8_takeNumber_141 ?_
                  refine j_iconst hE (nI 2) dX8_takeNumber_142 kiconst_2 ?_
                  refine j_aload0 hE dX8_takeNumber_143 ?_
                  refine j_geti hE fX8_107 dX8_takeNumber_144 (by first | assumption | rfl) ?_
                  refine j_V2v hE mX8_53 (c_X8_fail l C hC S n hn _ (qB_N hb (by omega) (by omega)) 2 _) dX8_takeNumber_147 (by first | assumption | rfl) (by decide) (Nat.le_of_ble_eq_true rfl) ?_
                  refine j_iload3 hE dX8_takeNumber_150 ?_
                  exact j_iret hE hR dX8_takeNumber_151 (by rw [tnM, if_pos ⟨c4, c14⟩, ← hE2]) (by first
                      | (rw [tnQ, if_pos c4, if_pos c14, ← hE2, if_pos (Or.inl c129), RS_5]; rfl)
                      | (rw [tnQ, if_pos c4, if_pos c14, ← hE2, if_pos (Or.inr c138), RS_5]; rfl)
                      | (rw [tnQ, if_pos c4, if_pos c14, ← hE2, if_neg (fun z => z.elim c129 c138)]; done))
                · skip
                  rw [RS_4, RS_5] at c129
                  have c129 : ¬ nI 3 < nI p - nI (skp (S 2) n q.2.2.1) := c129
                  refine j_iload3 hE dX8_takeNumber_132 ?_
                  refine j_iload1 hE dX8_takeNumber_133 ?_
                  refine j_iload2 hE dX8_takeNumber_134 ?_
                  refine j_SN3i hE mX8_132 (c_X10_outside l C hC _ _ _ _) dX8_takeNumber_135 (by decide) (Nat.le_of_ble_eq_true rfl) ?_
                  first | refine j_ifeqP hE 150 dX8_takeNumber_138 (by decide) (fun c138 => ?_) (fun c138 => ?_) | refine j_ifeq hE 150 dX8_takeNumber_138 (by decide) (fun c138 => ?_) (fun c138 => ?_)
                  · skip
                    refine j_iload3 hE dX8_takeNumber_150 ?_
                    exact j_iret hE hR dX8_takeNumber_151 (by rw [tnM, if_pos ⟨c4, c14⟩, ← hE2]) (by first
                        | (rw [tnQ, if_pos c4, if_pos c14, ← hE2, if_pos (Or.inl c129), RS_5]; rfl)
                        | (rw [tnQ, if_pos c4, if_pos c14, ← hE2, if_pos (Or.inr c138), RS_5]; rfl)
                        | (rw [tnQ, if_pos c4, if_pos c14, ← hE2, if_neg (fun z => z.elim c129 c138)]; done))
                  · skip
                    refine j_aload0 hE dX8_takeNumber_141 ?_
                    refine j_iconst hE (nI 2) dX8_takeNumber_142 kiconst_2 ?_
                    refine j_aload0 hE dX8_takeNumber_143 ?_
                    refine j_geti hE fX8_107 dX8_takeNumber_144 (by first | assumption | rfl) ?_
                    refine j_V2v hE mX8_53 (c_X8_fail l C hC S n hn _ (qB_N hb (by omega) (by omega)) 2 _) dX8_takeNumber_147 (by first | assumption | rfl) (by decide) (Nat.le_of_ble_eq_true rfl) ?_
                    refine j_iload3 hE dX8_takeNumber_150 ?_
                    exact j_iret hE hR dX8_takeNumber_151 (by rw [tnM, if_pos ⟨c4, c14⟩, ← hE2]) (by first
                        | (rw [tnQ, if_pos c4, if_pos c14, ← hE2, if_pos (Or.inl c129), RS_5]; rfl)
                        | (rw [tnQ, if_pos c4, if_pos c14, ← hE2, if_pos (Or.inr c138), RS_5]; rfl)
                        | (rw [tnQ, if_pos c4, if_pos c14, ← hE2, if_neg (fun z => z.elim c129 c138)]; done))
              · skip
                refine j_aload0 hE dX8_takeNumber_73 ?_
                refine j_geti hE fX8_27 dX8_takeNumber_74 (by first | assumption | rfl) ?_
                refine j_aload0 hE dX8_takeNumber_77 ?_
                refine j_geti hE fX8_107 dX8_takeNumber_78 (by first | assumption | rfl) ?_
                refine j_isub hE dX8_takeNumber_81 ?_
                refine j_iconst hE (nI 3) dX8_takeNumber_82 kiconst_3 ?_
                refine j_icmpge hE 106 dX8_takeNumber_83 (by decide) (fun c83 => ?_) (fun c83 => ?_)
                · skip
                  rw [RS_4, RS_5] at c83
                  have c83 : 3 ≤ p - skp (S 2) n q.2.2.1 := sub3_ge hsp (by omega) c83
                  refine j_aload0 hE dX8_takeNumber_106 ?_
                  refine j_dup hE dX8_takeNumber_107 rfl ?_
                  refine j_geti hE fX8_27 dX8_takeNumber_108 (by first | assumption | rfl) ?_
                  refine j_iconst hE (nI 1) dX8_takeNumber_111 kiconst_1 ?_
                  refine j_iadd hE dX8_takeNumber_112 ?_
                  refine j_puti hE pX8_27 dX8_takeNumber_113 (by first | assumption | rfl) rfl rfl ?_
                  refine j_goto hE 45 dX8_takeNumber_116 (by decide) ?_
                  exact j_cast (by rw [RS_4, nI_add, RS_u4]; rfl) (by first | (rw [numV_ge c83]; done) | (rw [numV_lt c83 hsp c70]; done)) (ih (p + 1) (by omega) (by omega) (by omega) (by rw [← he, show n - p = n - (p + 1) + 1 by omega, dgE, if_pos ⟨c53, c70⟩]))
                · skip
                  rw [RS_4, RS_5] at c83
                  have c83 : p - skp (S 2) n q.2.2.1 < 3 := sub3_lt hsp (by omega) c83
                  refine j_iload3 hE dX8_takeNumber_86 ?_
                  refine j_bipush hE (nI 10) dX8_takeNumber_87 kbipush_10 ?_
                  refine j_imul hE dX8_takeNumber_89 ?_
                  refine j_aload0 hE dX8_takeNumber_90 ?_
                  refine j_getr hE fX8_9 dX8_takeNumber_91 (by first | assumption | rfl) (rf_o (by first | assumption | rfl) (by decide)) ?_
                  refine j_aload0 hE dX8_takeNumber_94 ?_
                  refine j_geti hE fX8_27 dX8_takeNumber_95 (by first | assumption | rfl) ?_
                  refine j_SN2i hE mX8_125 (c_X10_pick l C hC _ 2 240 rfl (by decide) _) dX8_takeNumber_98 (by decide) (Nat.le_of_ble_eq_true rfl) ?_
                  refine j_top (y := S 2 p) (by rw [RS_4, RS_o (by decide)]; exact pickN (x := p) (by omega) (by decide)) ?_
                  refine j_iadd hE dX8_takeNumber_101 ?_
                  refine j_bipush hE (nI 48) dX8_takeNumber_102 kbipush_48 ?_
                  refine j_isub hE dX8_takeNumber_104 ?_
                  refine j_istore3 hE dX8_takeNumber_105 rfl ?_
                  refine j_aload0 hE dX8_takeNumber_106 ?_
                  refine j_dup hE dX8_takeNumber_107 rfl ?_
                  refine j_geti hE fX8_27 dX8_takeNumber_108 (by first | assumption | rfl) ?_
                  refine j_iconst hE (nI 1) dX8_takeNumber_111 kiconst_1 ?_
                  refine j_iadd hE dX8_takeNumber_112 ?_
                  refine j_puti hE pX8_27 dX8_takeNumber_113 (by first | assumption | rfl) rfl rfl ?_
                  refine j_goto hE 45 dX8_takeNumber_116 (by decide) ?_
                  exact j_cast (by rw [RS_4, nI_add, RS_u4]; rfl) (by first | (rw [numV_ge c83]; done) | (rw [numV_lt c83 hsp c70]; done)) (ih (p + 1) (by omega) (by omega) (by omega) (by rw [← he, show n - p = n - (p + 1) + 1 by omega, dgE, if_pos ⟨c53, c70⟩]))
        exact j_cast rfl (by rw [Nat.sub_self]; rfl) (L45 (n - skp (S 2) n q.2.2.1 + 1) (skp (S 2) n q.2.2.1) (by omega) (skp_le hb.2.1) (Nat.le_refl _) rfl)
      · skip
        exact (ts2 (q := qSkip (S 2) n q) c4 c30).elim
    · skip
      refine j_aload0 hE dX8_takeNumber_17 ?_
      refine j_iconst hE (nI 1) dX8_takeNumber_18 kiconst_1 ?_
      refine j_aload0 hE dX8_takeNumber_19 ?_
      refine j_geti hE fX8_27 dX8_takeNumber_20 (by first | assumption | rfl) ?_
      refine j_V2v hE mX8_53 (c_X8_fail l C hC S n hn _ (qB_skip hb) 1 _) dX8_takeNumber_23 (by first | assumption | rfl) (by decide) (Nat.le_of_ble_eq_true rfl) ?_
      refine j_aload0 hE dX8_takeNumber_26 ?_
      refine j_geti hE fX8_30 dX8_takeNumber_27 (by first | assumption | rfl) ?_
      refine j_ifeq hE 35 dX8_takeNumber_30 (by decide) (fun c30 => ?_) (fun c30 => ?_)
      · skip
        exact (ts1 (qB_fail (qB_skip hb) (by decide)) (fail_k (by decide)) c30).elim
      · skip
        refine j_iconst hE (nI 0) dX8_takeNumber_33 kiconst_0 ?_
        exact j_iret hE hR dX8_takeNumber_34 (by first | (rw [tnM, if_neg (fun z => c4 z.1)]; done) | (rw [tnM, if_neg (fun z => c14 z.2)]; done)) (by first | (rw [tnQ, if_neg c4]; done) | (rw [tnQ, if_pos c4, if_neg c14, RS_4]; done) | (rw [tnQ, if_pos c4, if_neg c14, RS_4]; rfl))

