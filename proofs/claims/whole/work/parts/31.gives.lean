/-! gives, as a list of pairs -/
def gfo (L : List (Nat × Nat)) (p : Pr2) : Pr2 := L.foldl (fun p q => mgF p q.1 q.2) p
theorem gfo_nil (p : Pr2) : gfo [] p = p := rfl
theorem gfo_cons (q : Nat × Nat) (L : List (Nat × Nat)) (p : Pr2) : gfo (q :: L) p = gfo L (mgF p q.1 q.2) := rfl
theorem gfo_app (L M : List (Nat × Nat)) (p : Pr2) : gfo (L ++ M) p = gfo M (gfo L p) := List.foldl_append
theorem upd_comm {f : Nat → Int32} {a b : Nat} {x y : Int32} (h : a ≠ b) : upd (upd f a x) b y = upd (upd f b y) a x := by
  funext j
  unfold upd
  by_cases h1 : j = b
  · by_cases h2 : j = a
    · exact absurd (h2.symm.trans h1) h
    · simp [h1, h2]
      intro q
      exact absurd q.symm h
  · simp [h1]
theorem upd_up {f : Nat → Int32} {a : Nat} {x y : Int32} : upd (upd f a x) a y = upd f a y := by
  funext j
  unfold upd
  by_cases h1 : j = a <;> simp [h1]
theorem mgF_swap {p : Pr2} {a b c d : Nat} (h : a ≠ c) : mgF (mgF p a b) c d = mgF (mgF p c d) a b := by
  unfold mgF
  by_cases h1 : p.1 a ≤ 0
  · by_cases h2 : p.1 c ≤ 0
    · simp [h1, h2]
    · simp [h1, h2, pk_un h]
  · by_cases h2 : p.1 c ≤ 0
    · simp [h1, h2, pk_un (Ne.symm h)]
    · simp only [h1, h2, if_false, pk_un h, pk_un (Ne.symm h)]
      rw [upd_comm h]
      by_cases h3 : b = d
      · subst h3
        rw [pk_us, upd_up]
      · rw [pk_un (fun q => h3 q.symm), pk_un h3, upd_comm h3]
theorem gfo_move {a b : Nat} : ∀ (L : List (Nat × Nat)) (p : Pr2), (∀ q ∈ L, q.1 ≠ a) → gfo L (mgF p a b) = mgF (gfo L p) a b
  | [], _, _ => rfl
  | q :: L, p, h => by
    rw [gfo_cons, gfo_cons, mgF_swap (fun e => h q (List.mem_cons_self) e.symm), gfo_move L _ (fun x hx => h x (List.mem_cons_of_mem _ hx))]
abbrev fil (x : Nat) (L : List (Nat × Nat)) : List (Nat × Nat) := L.filter (fun q => decide (q.1 = x))
theorem gfo_perm : ∀ (L M : List (Nat × Nat)) (p : Pr2), (∀ x, fil x L = fil x M) → gfo L p = gfo M p
  | [], M, p, h => by
    cases M with
    | nil => rfl
    | cons q M =>
      have := h q.1
      simp [fil] at this
  | q :: L, M, p, h => by
    have hq := h q.1
    have e1 : fil q.1 (q :: L) = q :: fil q.1 L := by simp [fil]
    rw [e1] at hq
    obtain ⟨l1, l2, rfl, hn, hp, ht⟩ := List.filter_eq_cons_iff.mp hq.symm
    have hn' : ∀ x ∈ l1, x.1 ≠ q.1 := fun x hx => by
      have := hn x hx
      simpa using this
    rw [gfo_cons, gfo_app, gfo_cons, ← gfo_move l1 p hn', ← gfo_app]
    apply gfo_perm
    intro x
    by_cases hx : x = q.1
    · subst hx
      have : fil q.1 l1 = [] := List.filter_eq_nil_iff.mpr (fun y hy => by simpa using hn' y hy)
      show fil q.1 L = List.filter _ (l1 ++ l2)
      rw [List.filter_append]
      show _ = fil q.1 l1 ++ _
      rw [this, List.nil_append]
      exact ht.symm
    · have e := h x
      simp only [fil, List.filter_append, List.filter_cons] at e ⊢
      have : decide (q.1 = x) = false := by simp [Ne.symm hx]
      rw [this] at e
      simpa using e
theorem fil_rng {g : Nat → List (Nat × Nat)} (hg : ∀ y q, q ∈ g y → q.1 = y) (x : Nat) : ∀ i, fil x ((List.range i).flatMap g) = if x < i then g x else []
  | 0 => by simp [fil]
  | i + 1 => by
    have ih := fil_rng hg x i
    rw [List.range_succ, List.flatMap_append]
    show List.filter _ _ = _
    rw [List.filter_append]
    show fil x _ ++ fil x _ = _
    rw [ih, List.flatMap_cons, List.flatMap_nil, List.append_nil]
    by_cases h : x = i
    · subst h
      have : fil x (g x) = g x := List.filter_eq_self.mpr (fun q hq => by simpa using hg x q hq)
      rw [this]
      simp
    · have : fil x (g i) = [] := List.filter_eq_nil_iff.mpr (fun q hq => by
        have := hg i q hq
        simp [this]
        exact fun e => h e.symm)
      rw [this, List.append_nil]
      by_cases h2 : x < i
      · rw [if_pos h2, if_pos (by omega)]
      · rw [if_neg h2, if_neg (by omega)]
theorem fil_fm (x : Nat) (g : Nat → List (Nat × Nat)) (l : List Nat) : fil x (l.flatMap g) = l.flatMap (fun c => fil x (g c)) := by
  induction l with
  | nil => rfl
  | cons a l ih =>
    show List.filter _ _ = _
    rw [List.flatMap_cons, List.filter_append, List.flatMap_cons]
    exact congrArg _ ih
theorem fm_congr {g h : Nat → List (Nat × Nat)} : ∀ l : List Nat, (∀ c ∈ l, g c = h c) → l.flatMap g = l.flatMap h
  | [], _ => rfl
  | a :: l, e => by
    rw [List.flatMap_cons, List.flatMap_cons, e a List.mem_cons_self, fm_congr l (fun c hc => e c (List.mem_cons_of_mem _ hc))]
theorem gfo_agree {nn : Nat} : ∀ (L : List (Nat × Nat)) (p p' : Pr2), (∀ q ∈ L, q.1 < nn ∧ q.2 < nn) → (∀ k, k < nn → p.1 k = p'.1 k ∧ p.2 k = p'.2 k) → ∀ k, k < nn → (gfo L p).1 k = (gfo L p').1 k ∧ (gfo L p).2 k = (gfo L p').2 k
  | [], _, _, _, h => h
  | q :: L, p, p', hL, h => by
    rw [gfo_cons, gfo_cons]
    obtain ⟨ha, hb⟩ := hL q List.mem_cons_self
    refine gfo_agree L _ _ (fun x hx => hL x (List.mem_cons_of_mem _ hx)) (fun k hk => ?_)
    unfold mgF
    rw [(h q.1 ha).1, (h q.2 hb).2]
    split
    · exact h k hk
    · refine ⟨?_, ?_⟩
      · show upd _ _ _ k = upd _ _ _ k
        unfold upd
        rw [(h k hk).1]
      · show upd _ _ _ k = upd _ _ _ k
        unfold upd
        rw [(h k hk).2]
theorem gfo_out {nn : Nat} : ∀ (L : List (Nat × Nat)) (p : Pr2), (∀ q ∈ L, q.1 < nn ∧ q.2 < nn) → ∀ k, nn ≤ k → (gfo L p).1 k = p.1 k ∧ (gfo L p).2 k = p.2 k
  | [], _, _, _, _ => ⟨rfl, rfl⟩
  | q :: L, p, hL, k, hk => by
    obtain ⟨ha, hb⟩ := hL q List.mem_cons_self
    rw [gfo_cons]
    have := gfo_out L (mgF p q.1 q.2) (fun x hx => hL x (List.mem_cons_of_mem _ hx)) k hk
    rw [this.1, this.2]
    unfold mgF
    split
    · exact ⟨rfl, rfl⟩
    · exact ⟨pk_un (by omega), pk_un (by omega)⟩
def gB (nn m : Nat) (p : Pr2) : Prop := ∀ k, k < nn → (∃ v, v ≤ 9 ∧ p.1 k = nI v) ∧ ∃ c, c ≤ m ∧ p.2 k = nI c
theorem mgF_b {nn m : Nat} {p : Pr2} {a b : Nat} (h : gB nn m p) (ha : a < nn) (hb : b < nn) : gB nn (m + 1) (mgF p a b) := fun k hk => by
  obtain ⟨⟨v, hv, ev⟩, c, hc, ec⟩ := h k hk
  unfold mgF
  split
  · exact ⟨⟨v, hv, ev⟩, c, by omega, ec⟩
  · rename_i q
    refine ⟨?_, ?_⟩
    · show ∃ v, v ≤ 9 ∧ upd _ _ _ k = nI v
      by_cases e : k = a
      · subst e
        rw [pk_us, ev]
        rw [ev] at q
        have : v ≠ 0 := fun z => q (by subst z; exact Int32.le_refl _)
        exact ⟨v - 1, by omega, nI_dec this⟩
      · rw [pk_un e]
        exact ⟨v, hv, ev⟩
    · show ∃ c, c ≤ m + 1 ∧ upd _ _ _ k = nI c
      by_cases e : k = b
      · subst e
        rw [pk_us, ec]
        exact ⟨c + 1, by omega, nI_add c 1⟩
      · rw [pk_un e]
        exact ⟨c, by omega, ec⟩
theorem gfo_b {nn : Nat} : ∀ (L : List (Nat × Nat)) (m : Nat) (p : Pr2), (∀ q ∈ L, q.1 < nn ∧ q.2 < nn) → gB nn m p → gB nn (m + L.length) (gfo L p)
  | [], _, _, _, h => h
  | q :: L, m, p, hL, h => by
    obtain ⟨ha, hb⟩ := hL q List.mem_cons_self
    have := gfo_b L (m + 1) (mgF p q.1 q.2) (fun x hx => hL x (List.mem_cons_of_mem _ hx)) (mgF_b h ha hb)
    rw [gfo_cons, List.length_cons]
    rwa [show m + (L.length + 1) = m + 1 + L.length by omega]
theorem fm_len {g : Nat → List (Nat × Nat)} {k : Nat} : ∀ i, (∀ y, y < i → (g y).length ≤ k) → ((List.range i).flatMap g).length ≤ i * k
  | 0, _ => by simp
  | i + 1, h => by
    rw [List.range_succ, List.flatMap_append, List.length_append, List.flatMap_cons, List.flatMap_nil, List.append_nil, Nat.succ_mul]
    have := fm_len i (fun y hy => h y (by omega))
    have := h i (by omega)
    omega
theorem putFN {n : Nat} {f : Nat → Int32} {x : Nat} {v : Int32} (h : x < n) (hn : n < 2 ^ 31) : putF n f (nI x) v = upd f x v := by
  unfold putF
  rw [if_neg, nI_clamp (by omega)]
  intro q
  rcases q with q | q
  · exact nI_pos (by omega) q
  · exact nI_ge h hn q
theorem g2_n {p : Pr2} {a b : Nat} (ha : a < 25) (hb : b < 25) : g2F p (nI a) (nI b) = mgF p a b := by
  unfold g2F mgF
  rw [pickN ha (by decide), pickN hb (by decide), putFN ha (by decide), putFN hb (by decide), if_neg]
  intro q
  exact absurd (congrArg (fun x => decide (x < (0 : Int32))) q) (by
    show ¬ decide (nI b < 0) = decide ((-1 : Int32) < 0)
    rw [decide_eq_false (nI_pos (by omega))]
    decide)
theorem g2_m1 {p : Pr2} {a : Int32} : g2F p a (-1) = p := if_pos rfl
/-! what each cell, each crack asks for -/
def dnL (nn ww : Nat) (ah : Nat → Int32) (x : Nat) : List (Nat × Nat) := if ah x < nI 2 ∨ nn ≤ x + ww then [] else [(x, x + ww)]
def wdL (ww : Nat) (wd : Int32) (ah : Nat → Int32) (x : Nat) : List (Nat × Nat) := if ah x < nI 4 then [] else if wd = nI 1 ∧ 0 < x % ww then [(x, x - 1)] else if wd = nI 2 ∧ x % ww + 1 < ww then [(x, x + 1)] else []
def crL (A B : Nat → Nat) (fl : Int32) (ah : Nat → Int32) (c : Nat) : List (Nat × Nat) := if bitP fl (nI c) then [] else if ah (A c) - ah (B c) < nI 2 then (if -2 < ah (A c) - ah (B c) then [] else [(B c, A c)]) else [(A c, B c)]
def mcL (A B : Nat → Nat) (fl : Int32) (ah : Nat → Int32) (x c : Nat) : List (Nat × Nat) := if bitP fl (nI c) then [] else if A c = x then (if ah x < ah (B c) + nI 2 then [] else [(x, B c)]) else if B c = x then (if ah x < ah (A c) + nI 2 then [] else [(x, A c)]) else []
theorem dn_1 {nn ww x : Nat} {ah : Nat → Int32} {q : Nat × Nat} (h : q ∈ dnL nn ww ah x) : q.1 = x := by
  unfold dnL at h
  split at h
  · cases h
  · simp at h; rw [h]
theorem wd_1 {ww x : Nat} {wd : Int32} {ah : Nat → Int32} {q : Nat × Nat} (h : q ∈ wdL ww wd ah x) : q.1 = x := by
  unfold wdL at h
  split at h
  · cases h
  · split at h
    · simp at h; rw [h]
    · split at h
      · simp at h; rw [h]
      · cases h
theorem mc_1 {A B : Nat → Nat} {fl : Int32} {ah : Nat → Int32} {x c : Nat} {q : Nat × Nat} (h : q ∈ mcL A B fl ah x c) : q.1 = x := by
  unfold mcL at h
  split at h
  · cases h
  · split at h
    · split at h
      · cases h
      · simp at h; rw [h]
    · split at h
      · split at h
        · cases h
        · simp at h; rw [h]
      · cases h
theorem in9 {v w : Nat} (hv : v ≤ 9) (hw : w ≤ 9) : (nI v - nI w < nI 2 ↔ nI v < nI w + nI 2) ∧ (-2 < nI v - nI w ↔ nI w < nI v + nI 2) := by
  have : ∀ v, v ≤ 9 → ∀ w, w ≤ 9 → ((nI v - nI w < nI 2 ↔ nI v < nI w + nI 2) ∧ (-2 < nI v - nI w ↔ nI w < nI v + nI 2)) := by decide
  exact this v hv w hw
theorem in9b {v w : Nat} (hv : v ≤ 9) (hw : w ≤ 9) (h : ¬ nI v < nI w + nI 2) : nI w < nI v + nI 2 := by
  have : ∀ v, v ≤ 9 → ∀ w, w ≤ 9 → ¬ nI v < nI w + nI 2 → nI w < nI v + nI 2 := by decide
  exact this v hv w hw h
theorem cr_fil {A B : Nat → Nat} {fl : Int32} {ah : Nat → Int32} {x c : Nat} (hab : A c ≠ B c) (ha : ∃ v, v ≤ 9 ∧ ah (A c) = nI v) (hb : ∃ v, v ≤ 9 ∧ ah (B c) = nI v) : fil x (crL A B fl ah c) = mcL A B fl ah x c := by
  obtain ⟨v, hv, ev⟩ := ha
  obtain ⟨w, hw, ew⟩ := hb
  unfold crL mcL
  by_cases h1 : bitP fl (nI c)
  · rw [if_pos h1, if_pos h1]; rfl
  · rw [if_neg h1, if_neg h1, ev, ew]
    by_cases h2 : nI v - nI w < nI 2
    · rw [if_pos h2]
      have h2' := (in9 hv hw).1.mp h2
      by_cases h3 : -2 < nI v - nI w
      · rw [if_pos h3]
        have h3' := (in9 hv hw).2.mp h3
        by_cases a1 : A c = x
        · subst a1
          rw [if_pos rfl, ev, if_pos h2']; rfl
        · rw [if_neg a1]
          by_cases a2 : B c = x
          · subst a2
            rw [if_pos rfl, ew, if_pos h3']; rfl
          · rw [if_neg a2]; rfl
      · rw [if_neg h3]
        have h3' := fun z => h3 ((in9 hv hw).2.mpr z)
        by_cases a1 : A c = x
        · subst a1
          rw [if_pos rfl, ev, if_pos h2']
          simp [fil]
          exact fun e => hab e.symm
        · rw [if_neg a1]
          by_cases a2 : B c = x
          · subst a2
            rw [if_pos rfl, ew, if_neg h3']
            simp [fil]
          · rw [if_neg a2]
            simp [fil, a2]
    · rw [if_neg h2]
      have h2' := fun z => h2 ((in9 hv hw).1.mpr z)
      by_cases a1 : A c = x
      · subst a1
        rw [if_pos rfl, ev, if_neg h2']
        simp [fil]
      · rw [if_neg a1]
        by_cases a2 : B c = x
        · subst a2
          rw [if_pos rfl, ew, if_pos (in9b hv hw h2')]
          simp [fil, a1]
        · rw [if_neg a2]
          simp [fil, a1]
/-- class's order and model's order of the gives come to the same -/
theorem gives_same {nn ww nc : Nat} {A B : Nat → Nat} {wd fl : Int32} {ah : Nat → Int32} (hn : nn ≤ 25) (hA : ∀ c, c < nc → A c < nn ∧ B c < nn ∧ A c ≠ B c) (hh : ∀ x, x < nn → ∃ v, v ≤ 9 ∧ ah x = nI v) (hz : ∀ x, nn ≤ x → x < 25 → ah x = nI 0) (p : Pr2) :
    gfo ((List.range nc).flatMap (crL A B fl ah)) (gfo ((List.range 25).flatMap (fun x => dnL nn ww ah x ++ wdL ww wd ah x)) p) = gfo ((List.range nn).flatMap (fun x => (dnL nn ww ah x ++ wdL ww wd ah x) ++ (List.range nc).flatMap (mcL A B fl ah x))) p := by
  rw [← gfo_app]
  apply gfo_perm
  intro x
  have e1 : fil x ((List.range 25).flatMap (fun x => dnL nn ww ah x ++ wdL ww wd ah x)) = if x < 25 then dnL nn ww ah x ++ wdL ww wd ah x else [] :=
    fil_rng (g := fun x => dnL nn ww ah x ++ wdL ww wd ah x) (fun y q hq => (List.mem_append.mp hq).elim dn_1 wd_1) x 25
  have e2 := fil_rng (g := fun x => (dnL nn ww ah x ++ wdL ww wd ah x) ++ (List.range nc).flatMap (mcL A B fl ah x)) (fun y q hq => (List.mem_append.mp hq).elim (fun h => (List.mem_append.mp h).elim dn_1 wd_1) (fun h => by
    obtain ⟨c, _, hc⟩ := List.mem_flatMap.mp h
    exact mc_1 hc)) x nn
  rw [e2]
  show List.filter _ _ = _
  rw [List.filter_append]
  show fil x _ ++ fil x _ = _
  rw [e1, fil_fm]
  have e3 : (List.range nc).flatMap (fun c => fil x (crL A B fl ah c)) = (List.range nc).flatMap (mcL A B fl ah x) := by
    apply fm_congr
    intro c hc
    have hc' := List.mem_range.mp hc
    obtain ⟨a1, a2, a3⟩ := hA c hc'
    exact cr_fil a3 (hh _ a1) (hh _ a2)
  rw [e3]
  by_cases hx : x < nn
  · rw [if_pos hx, if_pos (by omega)]
  · rw [if_neg hx]
    have h1 : (List.range nc).flatMap (mcL A B fl ah x) = [] := by
      rw [List.flatMap_eq_nil_iff]
      intro c hc
      obtain ⟨a1, a2, a3⟩ := hA c (List.mem_range.mp hc)
      unfold mcL
      rw [if_neg (show ¬ A c = x by omega), if_neg (show ¬ B c = x by omega)]
      split <;> rfl
    rw [h1, List.append_nil]
    by_cases h25 : x < 25
    · rw [if_pos h25]
      have := hz x (by omega) h25
      unfold dnL wdL
      rw [this, if_pos (Or.inl (by decide)), if_pos (by decide)]
      rfl
    · rw [if_neg h25]
