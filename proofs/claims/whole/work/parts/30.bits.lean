/-! bits of an int -/
def bt (x : Int32) (k : Nat) : Bool := x.toBitVec.getLsbD k
theorem bt_ext {x y : Int32} (h : ∀ k, k < 32 → bt x k = bt y k) : x = y := Int32.toBitVec_inj.mp (BitVec.eq_of_getLsbD_eq (fun i hi => h i hi))
theorem bt_32 {x : Int32} {k : Nat} (h : 32 ≤ k) : bt x k = false := BitVec.getLsbD_of_ge _ _ h
theorem bt_and (x y : Int32) (k : Nat) : bt (x &&& y) k = (bt x k && bt y k) := by unfold bt; rw [Int32.toBitVec_and, BitVec.getLsbD_and]
theorem bt_or (x y : Int32) (k : Nat) : bt (x ||| y) k = (bt x k || bt y k) := by unfold bt; rw [Int32.toBitVec_or, BitVec.getLsbD_or]
theorem bt_xor (x y : Int32) (k : Nat) : bt (x ^^^ y) k = (bt x k ^^ bt y k) := by unfold bt; rw [Int32.toBitVec_xor, BitVec.getLsbD_xor]
theorem bt_m1 : ∀ k, k < 32 → bt (-1) k = true := by decide
theorem bt_not {x : Int32} {k : Nat} (h : k < 32) : bt (x ^^^ (-1)) k = !bt x k := by rw [bt_xor, bt_m1 k h, Bool.xor_true]
theorem bt_0 (k : Nat) : bt (nI 0) k = false := by
  unfold bt
  show (0#32).getLsbD k = false
  exact BitVec.getLsbD_zero
theorem sh_amt : ∀ k, k < 32 → ((nI k &&& 31).toBitVec.smod 32).toNat = k := by decide
theorem bt_shl {x : Int32} {j k : Nat} (hj : j < 32) : bt (x <<< (nI j &&& 31)) k = (decide (k < 32) && !decide (k < j) && bt x (k - j)) := by
  unfold bt
  rw [Int32.toBitVec_shiftLeft]
  show (x.toBitVec <<< ((nI j &&& 31).toBitVec.smod 32).toNat).getLsbD k = _
  rw [sh_amt j hj, BitVec.getLsbD_shiftLeft]
theorem bt_shr {x : Int32} {j k : Nat} (hj : j < 32) (hk : j + k < 32) : bt (x >>> (nI j &&& 31)) k = bt x (j + k) := by
  unfold bt
  rw [Int32.toBitVec_shiftRight]
  show (x.toBitVec.sshiftRight ((nI j &&& 31).toBitVec.smod 32).toNat).getLsbD k = _
  rw [sh_amt j hj, BitVec.getLsbD_sshiftRight, if_pos hk]
  simp
  omega
theorem bt_shr2 {x : Int32} {j k : Nat} (hj : j < 32) (hx : bt x 31 = false) : bt (x >>> (nI j &&& 31)) k = bt x (j + k) := by
  by_cases hk : j + k < 32
  · exact bt_shr hj hk
  · rw [bt_32 (k := j + k) (by omega)]
    unfold bt
    rw [Int32.toBitVec_shiftRight]
    show (x.toBitVec.sshiftRight ((nI j &&& 31).toBitVec.smod 32).toNat).getLsbD k = _
    rw [sh_amt j hj, BitVec.getLsbD_sshiftRight, if_neg hk]
    have : x.toBitVec.msb = false := by rw [BitVec.msb_eq_getLsbD_last]; exact hx
    rw [this, Bool.and_false]
theorem bt_1 (k : Nat) : bt (nI 1) k = decide (k = 0) := by
  by_cases h : k < 32
  · have : ∀ k, k < 32 → bt (nI 1) k = decide (k = 0) := by decide
    exact this k h
  · rw [bt_32 (by omega)]
    simp; omega
theorem bt_pow {j k : Nat} (hj : j < 32) : bt (nI 1 <<< (nI j &&& 31)) k = decide (k = j) := by
  rw [bt_shl hj, bt_1]
  by_cases h : k = j
  · subst h; simp [hj]
  · simp [h]; omega
theorem low1 {x : Int32} {k : Nat} (hk : k < 32) : (x >>> (nI k &&& 31)) &&& nI 1 = if bt x k = true then nI 1 else nI 0 := by
  apply bt_ext
  intro i hi
  rw [bt_and, bt_1]
  by_cases h : i = 0
  · subst h
    rw [bt_shr hk (by omega)]
    cases e : bt x k
    · simp [e, bt_0]
    · simp [e, bt_1]
  · simp [h]
    cases e : bt x k
    · simp [bt_0]
    · simp [bt_1, h]
theorem n1_ne0 : ¬ nI 1 = 0 := by decide
theorem hasM_b {x : Int32} {k : Nat} (hk : k < 32) : hasM x (nI k) ↔ bt x k = true := by
  unfold hasM
  rw [low1 hk]
  cases bt x k <;> decide
theorem bitP_b {x : Int32} {k : Nat} (hk : k < 32) : bitP x (nI k) ↔ bt x k = true := by
  unfold bitP
  rw [low1 hk]
  cases bt x k <;> decide
/-! counting -/
def cnt (p : Nat → Bool) : Nat → Nat
  | 0 => 0
  | n + 1 => cnt p n + (p n).toNat
theorem cnt_c {p q : Nat → Bool} : ∀ {n : Nat}, (∀ k, k < n → p k = q k) → cnt p n = cnt q n
  | 0, _ => rfl
  | n + 1, h => by rw [cnt, cnt, cnt_c (fun k hk => h k (by omega)), h n (by omega)]
theorem cnt_le (p : Nat → Bool) : ∀ n, cnt p n ≤ n
  | 0 => Nat.le_refl _
  | n + 1 => by
    have := cnt_le p n
    have : (p n).toNat ≤ 1 := Bool.toNat_le _
    rw [cnt]
    omega
theorem cnt_z {p : Nat → Bool} : ∀ {n : Nat}, (∀ k, k < n → p k = false) → cnt p n = 0
  | 0, _ => rfl
  | n + 1, h => by rw [cnt, cnt_z (fun k hk => h k (by omega)), h n (by omega)]; rfl
theorem cnt_m {p : Nat → Bool} {n : Nat} (h : ∀ k, n ≤ k → p k = false) : ∀ m, cnt p (n + m) = cnt p n
  | 0 => rfl
  | m + 1 => by
    show cnt p (n + m) + (p (n + m)).toNat = _
    rw [cnt_m h m, h (n + m) (by omega)]
    rfl
theorem cnt_or {p q : Nat → Bool} (h : ∀ k, (p k && q k) = false) : ∀ n, cnt (fun k => p k || q k) n = cnt p n + cnt q n
  | 0 => rfl
  | n + 1 => by
    have e := cnt_or h n
    have d := h n
    rw [cnt, cnt, cnt, e]
    cases a : p n <;> cases b : q n <;> simp [a, b] at d ⊢ <;> omega
theorem cnt_pt {b : Nat → Bool} {c : Nat} : ∀ n, cnt (fun k => decide (k = c) && b k) n = if c < n then (b c).toNat else 0
  | 0 => by simp [cnt]
  | n + 1 => by
    rw [cnt, cnt_pt n]
    by_cases h : n = c
    · subst h; simp
    · simp [h]
      by_cases h2 : c < n
      · rw [if_pos h2, if_pos (by omega)]
      · rw [if_neg h2, if_neg (by omega)]
theorem bits_c {x : Int32} : ∀ {n : Nat}, n ≤ 32 → bitsF x n = nI (cnt (bt x) n)
  | 0, _ => rfl
  | n + 1, h => by
    rw [bitsF, bits_c (by omega), low1 (by omega), cnt]
    cases bt x n
    · exact nI_add _ 0
    · exact nI_add _ 1
theorem nI_toNat {k : Nat} : (nI k).toBitVec.toNat = k % 2 ^ 32 := by
  unfold nI
  rw [Int32.toBitVec_ofNat']
  exact BitVec.toNat_ofNat _ _
/-! the JDK's count of bits -/
theorem and_split (a b : Nat) : a &&& b = (a % 256 &&& b % 256) + 256 * (a / 256 &&& b / 256) := by
  have h1 : (a &&& b) % 2 ^ 8 = a % 2 ^ 8 &&& b % 2 ^ 8 := Nat.and_mod_two_pow
  have h2 : (a &&& b) / 2 ^ 8 = a / 2 ^ 8 &&& b / 2 ^ 8 := Nat.and_div_two_pow
  have h3 := Nat.mod_add_div (a &&& b) 256
  rw [show (2 : Nat) ^ 8 = 256 from rfl] at h1 h2
  rw [← h1, ← h2]
  omega
theorem pc_d1 : ∀ b, b < 256 → ∀ e, e < 2 → (b / 2 + 128 * e) &&& 85 = (b / 2) &&& 85 := by decide +kernel
theorem pc_d2 : ∀ b, b < 256 → ∀ e, e < 4 → (b / 4 + 64 * e) &&& 51 = (b / 4) &&& 51 := by decide +kernel
theorem pc_d3 : ∀ c, c < 69 → ∀ e, e < 5 → (c + c / 16 + 16 * e) &&& 15 = (c + c / 16) &&& 15 := by decide +kernel
theorem pc_s1 {b y M : Nat} (hb : b < 256) : ((b + 256 * y) / 2) &&& (85 + 256 * M) = ((b / 2) &&& 85) + 256 * ((y / 2) &&& M) := by
  rw [and_split, show (b + 256 * y) / 2 % 256 = b / 2 + 128 * (y % 2) by omega, show (b + 256 * y) / 2 / 256 = y / 2 by omega, show (85 + 256 * M) % 256 = 85 by omega, show (85 + 256 * M) / 256 = M by omega, pc_d1 b hb (y % 2) (by omega)]
theorem pc_s2 {b y M : Nat} (hb : b < 256) : ((b + 256 * y) / 4) &&& (51 + 256 * M) = ((b / 4) &&& 51) + 256 * ((y / 4) &&& M) := by
  rw [and_split, show (b + 256 * y) / 4 % 256 = b / 4 + 64 * (y % 4) by omega, show (b + 256 * y) / 4 / 256 = y / 4 by omega, show (51 + 256 * M) % 256 = 51 by omega, show (51 + 256 * M) / 256 = M by omega, pc_d2 b hb (y % 4) (by omega)]
theorem pc_s0 {b y M : Nat} (hb : b < 256) : (b + 256 * y) &&& (51 + 256 * M) = (b &&& 51) + 256 * (y &&& M) := by
  rw [and_split, show (b + 256 * y) % 256 = b by omega, show (b + 256 * y) / 256 = y by omega, show (51 + 256 * M) % 256 = 51 by omega, show (51 + 256 * M) / 256 = M by omega]
theorem pc_s3 {c y M : Nat} (hc : c < 69) (hy : y % 16 < 5) : ((c + 256 * y) + (c + 256 * y) / 16) &&& (15 + 256 * M) = ((c + c / 16) &&& 15) + 256 * ((y + y / 16) &&& M) := by
  rw [and_split, show ((c + 256 * y) + (c + 256 * y) / 16) % 256 = c + c / 16 + 16 * (y % 16) by omega, show ((c + 256 * y) + (c + 256 * y) / 16) / 256 = y + y / 16 by omega, show (15 + 256 * M) % 256 = 15 by omega, show (15 + 256 * M) / 256 = M by omega, pc_d3 c hc (y % 16) (by omega)]
def n1 (b : Nat) : Nat := b - ((b / 2) &&& 85)
def n2 (b : Nat) : Nat := (b &&& 51) + ((b / 4) &&& 51)
def n3 (b : Nat) : Nat := (b + b / 16) &&& 15
def sum8 (x : Nat) : Nat := x % 2 + x / 2 % 2 + x / 4 % 2 + x / 8 % 2 + x / 16 % 2 + x / 32 % 2 + x / 64 % 2 + x / 128 % 2
theorem byte_ok : ∀ b, b < 256 → n1 b < 256 ∧ ((b / 2) &&& 85) ≤ b ∧ n2 (n1 b) < 69 ∧ n2 (n1 b) % 16 < 5 ∧ n3 (n2 (n1 b)) = sum8 b ∧ sum8 b ≤ 8 := by decide +kernel
theorem sum8_m (x : Nat) : sum8 x = sum8 (x % 256) := by
  unfold sum8
  rw [show x % 2 = x % 256 % 2 by omega, show x / 2 % 2 = x % 256 / 2 % 2 by omega, show x / 4 % 2 = x % 256 / 4 % 2 by omega, show x / 8 % 2 = x % 256 / 8 % 2 by omega, show x / 16 % 2 = x % 256 / 16 % 2 by omega, show x / 32 % 2 = x % 256 / 32 % 2 by omega, show x / 64 % 2 = x % 256 / 64 % 2 by omega, show x / 128 % 2 = x % 256 / 128 % 2 by omega]
def b4 (a b c d : Nat) : Nat := a + 256 * (b + 256 * (c + 256 * d))
theorem m55 : 1431655765 = 85 + 256 * (85 + 256 * (85 + 256 * 85)) := rfl
theorem m33 : 858993459 = 51 + 256 * (51 + 256 * (51 + 256 * 51)) := rfl
theorem m0f : 252645135 = 15 + 256 * (15 + 256 * (15 + 256 * 15)) := rfl
theorem st_1 {a b c d : Nat} (ha : a < 256) (hb : b < 256) (hc : c < 256) (hd : d < 256) : (b4 a b c d / 2) &&& 1431655765 ≤ b4 a b c d ∧ b4 a b c d - ((b4 a b c d / 2) &&& 1431655765) = b4 (n1 a) (n1 b) (n1 c) (n1 d) := by
  unfold b4
  rw [m55, pc_s1 ha, pc_s1 hb, pc_s1 hc]
  have := (byte_ok a ha).2.1
  have := (byte_ok b hb).2.1
  have := (byte_ok c hc).2.1
  have := (byte_ok d hd).2.1
  unfold n1
  omega
theorem st_2 {a b c d : Nat} (ha : a < 256) (hb : b < 256) (hc : c < 256) (hd : d < 256) : (b4 a b c d &&& 858993459) + ((b4 a b c d / 4) &&& 858993459) = b4 (n2 a) (n2 b) (n2 c) (n2 d) := by
  unfold b4
  rw [m33, pc_s0 ha, pc_s0 hb, pc_s0 hc, pc_s2 ha, pc_s2 hb, pc_s2 hc]
  unfold n2
  omega
theorem st_3 {a b c d : Nat} (ha : a < 69) (hb : b < 69) (hc : c < 69) (hd : d < 69) (hb2 : b % 16 < 5) (hc2 : c % 16 < 5) (hd2 : d % 16 < 5) : (b4 a b c d + b4 a b c d / 16) &&& 252645135 = b4 (n3 a) (n3 b) (n3 c) (n3 d) := by
  unfold b4
  rw [m0f, pc_s3 ha (by omega), pc_s3 hb (by omega), pc_s3 hc (by omega)]
  rfl
theorem u_and (x y : Int32) : (x &&& y).toBitVec.toNat = x.toBitVec.toNat &&& y.toBitVec.toNat := by rw [Int32.toBitVec_and, BitVec.toNat_and]
theorem u_add (x y : Int32) : (x + y).toBitVec.toNat = (x.toBitVec.toNat + y.toBitVec.toNat) % 2 ^ 32 := by rw [Int32.toBitVec_add, BitVec.toNat_add]
theorem u_sub (x y : Int32) : (x - y).toBitVec.toNat = (2 ^ 32 - y.toBitVec.toNat + x.toBitVec.toNat) % 2 ^ 32 := by rw [Int32.toBitVec_sub, BitVec.toNat_sub]
theorem u_inj {x y : Int32} (h : x.toBitVec.toNat = y.toBitVec.toNat) : x = y := Int32.toBitVec_inj.mp (BitVec.eq_of_toNat_eq h)
theorem bc_1 {x : Int32} {X Y : Nat} (hX : x.toBitVec.toNat = X) (hl : X < 2 ^ 32) (h : (X / 2) &&& 1431655765 ≤ X ∧ X - ((X / 2) &&& 1431655765) = Y) : (x - ((x.toUInt32 >>> ((nI 1).toUInt32 &&& Int32.toUInt32 31)).toInt32 &&& 1431655765)).toBitVec.toNat = Y := by
  rw [u_sub, u_and, pk_ushr x (nI 1) 1 (by decide), hX]
  show (2 ^ 32 - (X / 2 ^ 1 &&& 1431655765) + X) % 2 ^ 32 = Y
  rw [show (2 : Nat) ^ 1 = 2 from rfl]
  omega
theorem bc_2 {x : Int32} {X Y : Nat} (hX : x.toBitVec.toNat = X) (h : (X &&& 858993459) + ((X / 4) &&& 858993459) = Y) (hl : Y < 2 ^ 32) : ((x &&& 858993459) + ((x.toUInt32 >>> ((nI 2).toUInt32 &&& Int32.toUInt32 31)).toInt32 &&& 858993459)).toBitVec.toNat = Y := by
  rw [u_add, u_and, u_and, pk_ushr x (nI 2) 2 (by decide), hX]
  show ((X &&& 858993459) + (X / 2 ^ 2 &&& 858993459)) % 2 ^ 32 = Y
  rw [show (2 : Nat) ^ 2 = 4 from rfl, h]
  omega
theorem bc_3 {x : Int32} {X Y : Nat} (hX : x.toBitVec.toNat = X) (h : (X + X / 16) &&& 252645135 = Y) (hl : X + X / 16 < 2 ^ 32) : ((x + (x.toUInt32 >>> ((nI 4).toUInt32 &&& Int32.toUInt32 31)).toInt32) &&& 252645135).toBitVec.toNat = Y := by
  rw [u_and, u_add, pk_ushr x (nI 4) 4 (by decide), hX]
  show (X + X / 2 ^ 4) % 2 ^ 32 &&& 252645135 = Y
  rw [show (2 : Nat) ^ 4 = 16 from rfl, Nat.mod_eq_of_lt hl, h]
theorem bc_4 {x : Int32} {X : Nat} (hX : x.toBitVec.toNat = X) (k : Nat) (hk : (((nI k).toUInt32 &&& Int32.toUInt32 31).toBitVec % 32).toNat = k) (hl : X + X / 2 ^ k < 2 ^ 32) : (x + (x.toUInt32 >>> ((nI k).toUInt32 &&& Int32.toUInt32 31)).toInt32).toBitVec.toNat = X + X / 2 ^ k := by
  rw [u_add, pk_ushr x (nI k) k hk, hX, Nat.mod_eq_of_lt hl]
theorem b4_of (X : Nat) (h : X < 2 ^ 32) : X = b4 (X % 256) (X / 256 % 256) (X / 65536 % 256) (X / 16777216) := by
  unfold b4
  omega
theorem fin4 {a b c d : Nat} (ha : a ≤ 8) (hb : b ≤ 8) (hc : c ≤ 8) (hd : d ≤ 8) : (b4 a b c d + b4 a b c d / 2 ^ 8 + (b4 a b c d + b4 a b c d / 2 ^ 8) / 2 ^ 16) % 2 ^ 6 = a + b + c + d := by
  have e1 : b4 a b c d / 2 ^ 8 = b + 256 * (c + 256 * d) := by unfold b4; omega
  rw [e1]
  have e2 : b4 a b c d + (b + 256 * (c + 256 * d)) = (a + b) + 256 * (b + c) + 65536 * ((c + d) + 256 * d) := by unfold b4; omega
  rw [e2]
  have e3 : ((a + b) + 256 * (b + c) + 65536 * ((c + d) + 256 * d)) / 2 ^ 16 = (c + d) + 256 * d := by omega
  rw [e3]
  omega
theorem bc_u (x : Int32) : (bcF x).toBitVec.toNat = sum8 x.toBitVec.toNat + sum8 (x.toBitVec.toNat / 256) + sum8 (x.toBitVec.toNat / 65536) + sum8 (x.toBitVec.toNat / 16777216) := by
  have hX : x.toBitVec.toNat < 2 ^ 32 := x.toBitVec.isLt
  generalize hx : x.toBitVec.toNat = X at hX
  have ha : X % 256 < 256 := by omega
  have hb : X / 256 % 256 < 256 := by omega
  have hc : X / 65536 % 256 < 256 := by omega
  have hd : X / 16777216 < 256 := by omega
  have e0 := b4_of X hX
  rw [sum8_m X, sum8_m (X / 256), sum8_m (X / 65536)]
  generalize X % 256 = a at ha e0 ⊢
  generalize X / 256 % 256 = b at hb e0 ⊢
  generalize X / 65536 % 256 = c at hc e0 ⊢
  generalize X / 16777216 = d at hd e0 ⊢
  have oa := byte_ok a ha
  have ob := byte_ok b hb
  have oc := byte_ok c hc
  have od := byte_ok d hd
  rw [e0] at hx
  have l : b4 a b c d < 2 ^ 32 := by unfold b4; omega
  have h1 := bc_1 hx l (st_1 ha hb hc hd)
  have h2 := bc_2 h1 (st_2 oa.1 ob.1 oc.1 od.1) (by unfold b4; omega)
  have h3 := bc_3 h2 (st_3 oa.2.2.1 ob.2.2.1 oc.2.2.1 od.2.2.1 ob.2.2.2.1 oc.2.2.2.1 od.2.2.2.1) (by unfold b4; omega)
  rw [oa.2.2.2.2.1, ob.2.2.2.2.1, oc.2.2.2.2.1, od.2.2.2.2.1] at h3
  have h4 := bc_4 h3 8 (by decide) (by unfold b4; omega)
  have h5 := bc_4 h4 16 (by decide) (by unfold b4; omega)
  unfold bcF
  dsimp only
  rw [u_and, h5]
  show _ &&& 63 = _
  rw [show (63 : Nat) = 2 ^ 6 - 1 from rfl, Nat.and_two_pow_sub_one_eq_mod]
  exact fin4 oa.2.2.2.2.2 ob.2.2.2.2.2 oc.2.2.2.2.2 od.2.2.2.2.2
theorem bt_n (x : Int32) (k : Nat) : (bt x k).toNat = x.toBitVec.toNat / 2 ^ k % 2 := by
  unfold bt
  rw [BitVec.getLsbD, Nat.testBit_eq_decide_div_mod_eq]
  rcases Nat.mod_two_eq_zero_or_one (x.toBitVec.toNat / 2 ^ k) with h | h <;> simp [h]
theorem cnt_32 (x : Int32) : cnt (bt x) 32 = sum8 x.toBitVec.toNat + sum8 (x.toBitVec.toNat / 256) + sum8 (x.toBitVec.toNat / 65536) + sum8 (x.toBitVec.toNat / 16777216) := by
  simp only [cnt, bt_n, sum8, Nat.div_div_eq_div_mul]
  simp only [Nat.reducePow, Nat.reduceMul, Nat.div_one]
  omega
theorem bc_c (x : Int32) : bcF x = nI (cnt (bt x) 32) := by
  apply u_inj
  rw [bc_u, cnt_32, pk_tn]
  rw [← cnt_32]
  have := cnt_le (bt x) 32
  omega
/-- the model's count and the JDK's are alike where no bit above 25 stands -/
theorem bc_bits {x : Int32} (h : ∀ k, 25 ≤ k → bt x k = false) : bcF x = bitsF x 25 := by
  rw [bc_c, bits_c (by omega)]
  exact congrArg nI (cnt_m (n := 25) h 7)
