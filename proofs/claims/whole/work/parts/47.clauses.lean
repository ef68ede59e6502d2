/-! what a clause of the model leaves alone -/
theorem mtw_fr {S : Sto} {n a : Nat} : (∀ i, i ≠ 114 → mtwS S n a i = S i) ∧ ∀ j, (j < 14 ∨ 19 < j) → mtwS S n a 114 j = S 114 j := by
  have x : ∀ i, i ≠ 114 → mtwA S n a i = S i := fun i hi => by unfold mtwA; rw [up2_ne _ _ _ hi, mtnS_o hi]
  have y : ∀ j, (j < 14 ∨ 19 < j) → mtwA S n a 114 j = S 114 j := fun j hj => by unfold mtwA; rw [up114b (by omega), mtnS_k (by omega)]
  refine ⟨fun i hi => ?_, fun j hj => ?_⟩
  · unfold mtwS
    rw [up2_ne _ _ _ hi]
    unfold mtwT
    split
    · rw [mtnS_o hi, x i hi]
    · exact x i hi
  · unfold mtwS
    rw [up114b (by omega)]
    unfold mtwT
    split
    · rw [mtnS_k (by omega), y j hj]
    · exact y j hj
theorem mc_fr {S : Sto} {n a k : Nat} : (∀ i, i ≠ 114 → i ≠ 122 → i ≠ 123 → mcS S n a k i = S i) ∧ ∀ j, (j < 14 ∨ 22 < j) → mcS S n a k 114 j = S 114 j := by
  have x : ∀ i, i ≠ 114 → i ≠ 122 → mcA S n a k i = S i := fun i h1 h2 => by unfold mcA; rw [up2_ne _ _ _ h2, mtnS_o h1]
  have y : ∀ i, i ≠ 114 → i ≠ 122 → i ≠ 123 → mcB S n a k i = S i := fun i h1 h2 h3 => by unfold mcB; rw [up2_ne _ _ _ h3, mtnS_o h1, x i h1 h2]
  refine ⟨fun i h1 h2 h3 => ?_, fun j hj => ?_⟩
  · unfold mcS
    split
    · split
      · split
        · rw [up2_ne _ _ _ h1, y i h1 h2 h3]
        · rw [up2_ne _ _ _ h1, y i h1 h2 h3]
      · exact y i h1 h2 h3
    · exact x i h1 h2
  · unfold mcS
    split
    · split
      · split
        · rw [up114b (by omega), mcB_k (by omega)]
        · rw [up114b (by omega), mcB_k (by omega)]
      · exact mcB_k (by omega)
    · exact mcA_k (by omega)
theorem bod_fr {S : Sto} {n a kl kc kf hh : Nat} {k : Int32} : (∀ i, i ≠ 114 → (i < 121 ∨ 124 < i) → bodS S n a kl kc kf hh k i = S i) ∧ ∀ j, (j < 14 ∨ 28 < j) → bodS S n a kl kc kf hh k 114 j = S 114 j := by
  refine ⟨fun i hi h2 => ?_, fun j hj => ?_⟩
  · unfold bodS
    split
    · exact mtw_fr.1 i hi
    · split
      · unfold mtlS mtlW
        rw [up2_ne _ _ _ (by omega), mtnS_o hi, up2_ne _ _ _ hi]
      · split
        · exact mc_fr.1 i hi (by omega) (by omega)
        · split
          · rw [(mtlG_f _ _ _ _).2.1 i hi (by omega)]
            unfold mtlI
            rw [up2_ne _ _ _ (by omega), up2_ne _ _ _ hi]
          · unfold mtdS mtdW
            rw [up2_ne _ _ _ hi, mtnS_o hi, up2_ne _ _ _ hi]
  · unfold bodS
    split
    · exact mtw_fr.2 j (by omega)
    · split
      · unfold mtlS mtlW
        rw [up2_ne _ _ _ (by omega), mtnS_k (by omega), up114b (by omega)]
      · split
        · exact mc_fr.2 j (by omega)
        · split
          · rw [(mtlG_f _ _ _ _).1 j (by omega)]
            unfold mtlI
            rw [up2_ne _ _ _ (by omega), up114b (by omega)]
          · unfold mtdS mtdW
            rw [up114b (by omega), mtnS_k (by omega), up114b (by omega)]
theorem mq_fr {S : Sto} {n a kl kc kf hh : Nat} : (∀ i, i ≠ 114 → (i < 121 ∨ 124 < i) → mqS S n a kl kc kf hh i = S i) ∧ ∀ j, (j < 14 ∨ 28 < j) → mqS S n a kl kc kf hh 114 j = S 114 j := by
  have x : ∀ i, i ≠ 114 → (i < 121 ∨ 124 < i) → mqT S n a kl kc kf hh i = S i := fun i h1 h2 => by unfold mqT mq1; rw [bod_fr.1 i h1 h2, up2_ne _ _ _ h1]
  have y : ∀ j, (j < 14 ∨ 28 < j) → mqT S n a kl kc kf hh 114 j = S 114 j := fun j hj => by unfold mqT mq1; rw [bod_fr.2 j hj, up114b (by omega)]
  refine ⟨fun i h1 h2 => ?_, fun j hj => ?_⟩
  · unfold mqS mq0
    split
    · rw [up2_ne _ _ _ h1, up2_ne _ _ _ h1]
    · split
      · rw [up2_ne _ _ _ h1, up2_ne _ _ _ h1]
      · split
        · rw [up2_ne _ _ _ h1, up2_ne _ _ _ h1, x i h1 h2]
        · split
          · rw [up2_ne _ _ _ h1, x i h1 h2]
          · rw [up2_ne _ _ _ h1, x i h1 h2]
  · unfold mqS mq0
    split
    · rw [up114b (by omega), up114b (by omega)]
    · split
      · rw [up114b (by omega), up114b (by omega)]
      · split
        · rw [up114b (by omega), up114b (by omega), y j hj]
        · split
          · rw [up114b (by omega), y j hj]
          · rw [up114b (by omega), y j hj]
theorem mwG_fr {n : Nat} : ∀ (m : Nat) (S : Sto) (f : Int32), (∀ i, i ≠ 114 → (i < 121 ∨ 124 < i) → (mwG n m S f).2 i = S i) ∧ ∀ j, (j < 14 ∨ 28 < j) → (mwG n m S f).2 114 j = S 114 j
  | 0, S, f => ⟨fun _ _ _ => rfl, fun _ _ => rfl⟩
  | m + 1, S, f => by
    have t1 : ∀ i, i ≠ 114 → mwT S n i = S i := fun i h => by unfold mwT; rw [up2_ne _ _ _ h]
    have t2 : ∀ j, (j < 14 ∨ 28 < j) → mwT S n 114 j = S 114 j := fun j h => by unfold mwT; rw [up114b (by omega)]
    obtain ⟨a, b⟩ := mwG_fr (n := n) m (mwS (mwT S n) n) (mwV (mwT S n) n)
    unfold mwG
    split
    · split
      · exact ⟨fun i h _ => t1 i h, t2⟩
      · exact ⟨fun i h1 h2 => by rw [a i h1 h2]; unfold mwS; rw [mq_fr.1 i h1 h2, t1 i h1], fun j h => by rw [b j h]; unfold mwS; rw [mq_fr.2 j h, t2 j h]⟩
    · exact ⟨fun _ _ _ => rfl, fun _ _ => rfl⟩
/-! the fault's place stays where there is none -/
theorem mtlG_14 {n k : Nat} (hn : n ≤ 240) : ∀ (m i : Nat) (U : Sto) (f : Int32) (b : Nat), U 114 15 = nI b → b ≤ n → (mtlG n k m i U f).1 = 0 → f = 0 ∧ (mtlG n k m i U f).2 114 14 = U 114 14
  | 0, i, U, f, b, _, _, h => ⟨h, rfl⟩
  | m + 1, i, U, f, b, hb, hle, h => by
    unfold mtlG at h ⊢
    by_cases c : f = 0
    · rw [if_pos c] at h ⊢
      by_cases s : ¬ i = 0 ∧ ¬ cur (U 120) n (skp (U 120) n (atN U)) = nI 44
      · rw [if_pos s] at h
        exact absurd h n1_ne0
      · rw [if_neg s] at h ⊢
        have hc : ¬ i = 0 → cur (U 120) n (skp (U 120) n (atN U)) = nI 44 := fun z => Classical.byContradiction (fun y => s ⟨z, y⟩)
        have hq := mtlQ_le hb hle hn hc
        have p15 := mtlP_15 (n := n) (i := i) hb (by omega)
        have hA : mtnA (mtlP U n i) n (mtlQ U n i) ≤ n := mtnA_le hq
        obtain ⟨g1, g2⟩ := mtlG_14 hn m (i + 1) (mtlZ U n k i) (mtlV U n i) _ (mtlZ_15) hA h
        refine ⟨c, ?_⟩
        rw [g2]
        have hv : nmF (mtlP U n i 120) n (mtlQ U n i) (nI 0) (mtlX U) = 0 := by
          have := mtnV_F (S := mtlP U n i) (lo := nI 0) (hi := mtlX U) hn hq
          unfold mtlV at g1
          rw [this] at g1
          exact (nI_z (Nat.le_trans nmF_le (by decide))).mp g1
        unfold mtlZ mtlU
        rw [up2_ne _ _ _ (by omega), mtnS_0 hn hq hv, mtn_k (by omega), mtlP_k (by omega)]
    · rw [if_neg c] at h
      exact absurd h c
theorem bod_14 {S : Sto} {n a kl kc kf hh : Nat} {k : Int32} (hn : n ≤ 240) (h : a ≤ n) (h15 : S 114 15 = nI a) (h0 : bodF S n a kc hh k = 0) : bodS S n a kl kc kf hh k 114 14 = S 114 14 := by
  have hbv := bodV_F (kl := kl) (kf := kf) (kc := kc) (hh := hh) (k := k) hn h15 h
  rw [h0] at hbv
  unfold bodF at h0
  unfold bodV at hbv
  unfold bodS
  by_cases c0 : k = nI 0
  · rw [if_pos c0] at h0 ⊢
    obtain ⟨f1, f2, -⟩ := mtwS_0 hn h h0
    unfold mtwS mtwT
    have e : mtnV S n a (nI 2) (nI 5) ≤ 0 := (mtnV_0 hn h).mpr f1
    rw [up114b (by omega), if_pos e, mtnA_0 f1]
    have f3 : nmF (mtwA S n a 120) n (nmE (S 120) n a) (nI 2) (nI 5) = 0 := by rw [mtwA_t]; exact f2
    rw [mtnS_0 hn (nmE_le h) f3, mtn_k (by omega)]
    unfold mtwA
    rw [up114b (by omega), mtnS_0 hn h f1, mtn_k (by omega)]
  · rw [if_neg c0] at h0 ⊢
    by_cases c1 : k = nI 1
    · rw [if_pos c1] at h0 ⊢
      unfold mtlS
      rw [up2_ne _ _ _ (by omega), mtnS_0 (S := mtlW S kl) hn h (by unfold mtlW; rw [up2_ne _ _ _ (by omega)]; exact h0), mtn_k (by omega)]
      unfold mtlW
      rw [up114b (by omega)]
    · rw [if_neg c1] at h0 ⊢
      by_cases c2 : k = nI 2
      · rw [if_pos c2] at h0 ⊢
        obtain ⟨f1, f2, ok⟩ := ckF_0 h0
        unfold mcS
        have e1 : mcV1 S n a ≤ 0 := (mtnV_0 hn h).mpr f1
        rw [if_pos e1, if_pos ((mcV2_0 hn h f1).mpr f2), if_pos ((mcOk_iff hn h f1 f2).mpr ok), up114b (by omega), mcB_0 hn h f1 f2, up2_ne _ _ _ (by omega), mtn_k (by omega), mcA_0 hn h f1, up2_ne _ _ _ (by omega), mtn_k (by omega)]
      · rw [if_neg c2] at h0 ⊢
        by_cases c3 : k = nI 3
        · rw [if_pos c3] at h0 ⊢
          rw [if_neg c0, if_neg c1, if_neg c2, if_pos c3] at hbv
          have i15 : mtlI S kf 114 15 = nI a := by unfold mtlI; rw [up2_ne _ _ _ (by omega), up114b (by omega)]; exact h15
          rw [(mtlG_14 hn hh 0 (mtlI S kf) (nI 0) a i15 h hbv).2]
          unfold mtlI
          rw [up2_ne _ _ _ (by omega), up114b (by omega)]
        · rw [if_neg c3] at h0 ⊢
          unfold mtdS
          rw [up114b (by omega), mtnS_0 (S := mtdW S) hn h (by unfold mtdW; rw [up2_ne _ _ _ (by omega)]; exact h0), mtn_k (by omega)]
          unfold mtdW
          rw [up114b (by omega)]
/-- a clause of the model, by its body -/
theorem msg {U : Sto} {n a kl kc kf hh : Nat} (hn : n ≤ 240) (hW : WI U n a kl kc kf hh) (h1 : ¬ mqB1 U n a) (h2 : mfullV U (isK (mqC U n a)) = 0) :
    (bodF (mq1 U n a) n (skp (U 120) n a + 1) kc hh (isK (mqC U n a)) = 0 → cur (U 120) n (skp (U 120) n (bodE (mq1 U n a) n (skp (U 120) n a + 1) hh (isK (mqC U n a)))) = nI 59 → mqV U n a kl kc kf hh = nI 0 ∧ mqS U n a kl kc kf hh = up2 (bodS (mq1 U n a) n (skp (U 120) n a + 1) kl kc kf hh (isK (mqC U n a))) 114 15 (nI (skp (U 120) n (bodE (mq1 U n a) n (skp (U 120) n a + 1) hh (isK (mqC U n a))) + 1)) ∧ a < skp (U 120) n (bodE (mq1 U n a) n (skp (U 120) n a + 1) hh (isK (mqC U n a))) + 1 ∧ skp (U 120) n (bodE (mq1 U n a) n (skp (U 120) n a + 1) hh (isK (mqC U n a))) + 1 ≤ n) ∧
    (bodF (mq1 U n a) n (skp (U 120) n a + 1) kc hh (isK (mqC U n a)) = 0 → ¬ cur (U 120) n (skp (U 120) n (bodE (mq1 U n a) n (skp (U 120) n a + 1) hh (isK (mqC U n a)))) = nI 59 → mqV U n a kl kc kf hh = nI 1 ∧ mqS U n a kl kc kf hh 114 14 = nI (skp (U 120) n (bodE (mq1 U n a) n (skp (U 120) n a + 1) hh (isK (mqC U n a))))) ∧
    (¬ bodF (mq1 U n a) n (skp (U 120) n a + 1) kc hh (isK (mqC U n a)) = 0 → mqV U n a kl kc kf hh = nI (bodF (mq1 U n a) n (skp (U 120) n a + 1) kc hh (isK (mqC U n a))) ∧ mqS U n a kl kc kf hh 114 14 = nI (bodP (mq1 U n a) n (skp (U 120) n a + 1) hh (isK (mqC U n a))) ∧ bodF (mq1 U n a) n (skp (U 120) n a + 1) kc hh (isK (mqC U n a)) ≤ 4) := by
  have hs : skp (U 120) n a < n := isK_lt (t := U 120) (fun z => h1 (Or.inl z))
  have hW1 : WI (mq1 U n a) n (skp (U 120) n a + 1) kl kc kf hh := WI_at (b := 0) hW hs
  obtain ⟨g1, g2, g3⟩ := mfull_g hW h2
  have hV : mqF U n a kl kc kf hh = nI (bodF (mq1 U n a) n (skp (U 120) n a + 1) kc hh (isK (mqC U n a))) := by
    unfold mqF
    rw [bodV_F hn hW1.2.1 hW1.2.2.1]
  have h4 : bodF (mq1 U n a) n (skp (U 120) n a + 1) kc hh (isK (mqC U n a)) ≤ 4 := bodF_le hn hW1.2.1 hW1.2.2.1
  have n2 : ¬ ¬ mfullV U (isK (mqC U n a)) = 0 := fun z => z h2
  have ge := bodE_ge (S := mq1 U n a) (n := n) (a := skp (U 120) n a + 1) (hh := hh) (k := isK (mqC U n a))
  have zero : bodF (mq1 U n a) n (skp (U 120) n a + 1) kc hh (isK (mqC U n a)) = 0 → mqF U n a kl kc kf hh = 0 ∧ mqT U n a kl kc kf hh 120 = U 120 ∧ mqE U n a kl kc kf hh = skp (U 120) n (bodE (mq1 U n a) n (skp (U 120) n a + 1) hh (isK (mqC U n a))) := fun hF => by
    obtain ⟨kl', kc', kf', hh', hW2, ht⟩ := bod_0 (kl := kl) (kf := kf) hn hF hW1 g1 g2 g3
    have t0 : mqT U n a kl kc kf hh 120 = U 120 := by
      show bodS (mq1 U n a) n (skp (U 120) n a + 1) kl kc kf hh (isK (mqC U n a)) 120 = _
      rw [ht]
      unfold mq1
      rw [up2_ne _ _ _ (by omega)]
    refine ⟨by rw [hV, hF]; rfl, t0, ?_⟩
    have hA : atN (mqT U n a kl kc kf hh) = bodE (mq1 U n a) n (skp (U 120) n a + 1) hh (isK (mqC U n a)) := by
      have := hW2.2.2.1
      unfold atN mqT
      rw [hW2.2.1, nI_clamp (by omega)]
    unfold mqE
    rw [t0, hA]
  refine ⟨fun hF hc => ?_, fun hF hc => ?_, fun hF => ?_⟩
  · obtain ⟨z1, z2, z3⟩ := zero hF
    have b3 : ¬ mqB3 U n a kl kc kf hh := fun z => z.2 (by rw [z2, z3]; exact hc)
    unfold mqV mqS
    rw [if_neg h1, if_neg n2, if_neg b3, if_neg h1, if_neg n2, if_neg b3, if_pos z1, z3, z1]
    have l1 : skp (U 120) n (bodE (mq1 U n a) n (skp (U 120) n a + 1) hh (isK (mqC U n a))) < n := cur_lt hc (by decide)
    have l2 : bodE (mq1 U n a) n (skp (U 120) n a + 1) hh (isK (mqC U n a)) ≤ skp (U 120) n (bodE (mq1 U n a) n (skp (U 120) n a + 1) hh (isK (mqC U n a))) := skp_ge
    have l3 : a ≤ skp (U 120) n a := skp_ge
    exact ⟨rfl, rfl, by omega, by omega⟩
  · obtain ⟨z1, z2, z3⟩ := zero hF
    have b3 : mqB3 U n a kl kc kf hh := ⟨z1, by rw [z2, z3]; exact hc⟩
    unfold mqV mqS
    rw [if_neg h1, if_neg n2, if_pos b3, if_neg h1, if_neg n2, if_pos b3, up2_same, pk_us, z3]
    exact ⟨rfl, rfl⟩
  · have x : ¬ mqF U n a kl kc kf hh = 0 := fun z => hF ((nI_z (by omega)).mp (hV ▸ z))
    have b3 : ¬ mqB3 U n a kl kc kf hh := fun z => x z.1
    unfold mqV mqS
    rw [if_neg h1, if_neg n2, if_neg b3, if_neg h1, if_neg n2, if_neg b3, if_neg x, hV, up114b (by omega)]
    exact ⟨rfl, bodS_14 hn hW1.2.1 hW1.2.2.1 hF, h4⟩
