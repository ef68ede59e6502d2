/-! what a clause leaves alone -/
theorem addL_o {S : Sto} {pp i : Nat} {x : Int32} (h0 : i ≠ pp) (h1 : i ≠ pp + 1) : addLS S pp x i = S i := by
  unfold addLS
  rw [up2_ne _ _ _ h0, put_o h1]
theorem addC_o {S : Sto} {pp i : Nat} {x y : Int32} (h0 : i ≠ pp) (h1 : i ≠ pp + 2) (h2 : i ≠ pp + 3) : addCS S pp x y i = S i := by
  unfold addCS
  rw [up2_ne _ _ _ h0, put_o h2, put_o h1]
theorem addF_o {S : Sto} {pp i : Nat} {x : Int32} (h0 : i ≠ pp) (h1 : i ≠ pp + 4) : addFS S pp x i = S i := by
  unfold addFS
  rw [up2_ne _ _ _ h0, put_o h1]
theorem rsz_o {S : Sto} {pp i k : Nat} {h w : Int32} (h0 : i ≠ pp) : rszS S pp h w k i = S i := by
  unfold rszS
  rw [up2_ne _ _ _ h0, up2_ne _ _ _ h0, up2_ne _ _ _ h0, up2_ne _ _ _ h0]
theorem clr_o {S : Sto} {pp i : Nat} (h0 : i ≠ pp) : clrS S pp i = S i := by
  unfold clrS
  rw [up2_ne _ _ _ h0, up2_ne _ _ _ h0, up2_ne _ _ _ h0, up2_ne _ _ _ h0, rsz_o h0]
theorem cl_o {S : Sto} {pp n nc i : Nat} {q : Qr} (h : i < pp ∨ pp + 4 < i) : (clR S pp n nc q).1 i = S i := by
  unfold clR
  dsimp only
  split
  · rfl
  · split
    · show ckS S pp n nc _ i = S i
      unfold ckS
      split
      · rw [addC_o (by omega) (by omega) (by omega)]
      · rfl
    · split
      · show fcS S pp n _ i = S i
        unfold fcS
        split
        · rw [addF_o (by omega) (by omega)]
        · rfl
      · split
        · show lkS' S pp n _ i = S i
          unfold lkS'
          split
          · rw [addL_o (by omega) (by omega)]
          · rfl
        · split
          · show wdS S pp n _ i = S i
            unfold wdS
            split
            · rw [up2_ne _ _ _ (by omega)]
            · rfl
          · split
            · show szS S pp n _ i = S i
              unfold szS
              split
              · rw [rsz_o (by omega)]
              · rfl
            · rfl
/-! a fault stays -/
theorem num_k {t : Nat → Int32} {n : Nat} {q : Qr} {lo hi : Int32} (h : (tnQ t n q lo hi).1 = 0) : q.1 = 0 := by
  unfold tnQ at h
  split at h
  · assumption
  · exact h
theorem word_k {q : Qr} {b : Bool} (h : (qWord q b).1 = 0) : b = false ∧ q.1 = 0 := by
  cases b with
  | true => exact absurd h (fail_k (q := q) (w := nI q.2.2.1) (by decide : (3 : Nat) ≠ 0))
  | false => exact ⟨rfl, h⟩
theorem fail_k0 {q : Qr} {k : Nat} {w : Int32} (hk : k ≠ 0) (h : (qFail q k w).1 = 0) : False := fail_k hk h
theorem ck_nc {S : Sto} {pp n nc : Nat} {q : Qr} (h : okSign (S 2) n (ckQ4 S pp n nc q) (nI 59)) : S pp 9 < nI 6 := by
  have h1 : (ckQ4 S pp n nc q).1 = 0 := h.1
  unfold ckQ4 at h1
  split at h1
  · have h2 := (word_k (num_k (num_k h1))).1
    unfold ckB at h2
    simpa using h2
  · exact (fail_k0 (by decide) h1).elim
theorem cl_9 {S : Sto} {pp n nc : Nat} {q : Qr} (hnc : S pp 9 = nI nc) (hle : nc ≤ 6) : ∃ k, k ≤ 6 ∧ (clR S pp n nc q).1 pp 9 = nI k := by
  unfold clR
  dsimp only
  have z : ∃ k, k ≤ 6 ∧ S pp 9 = nI k := ⟨nc, hle, hnc⟩
  split
  · exact z
  · split
    · show ∃ k, k ≤ 6 ∧ ckS S pp n nc _ pp 9 = nI k
      unfold ckS
      split
      · next h =>
        have h6 := ck_nc h
        rw [hnc] at h6
        have h6 := (nI_ltI (by omega) (by decide)).mp h6
        refine ⟨nc + 1, by omega, ?_⟩
        unfold addCS
        rw [up2_same, pk_us, put_o (by omega), put_o (by omega), hnc, nI_add]
      · exact z
    · split
      · show ∃ k, k ≤ 6 ∧ fcS S pp n _ pp 9 = nI k
        unfold fcS
        split
        · refine ⟨nc, hle, ?_⟩
          unfold addFS
          rw [up2_same, pk_un (by decide), put_o (by omega), hnc]
        · exact z
      · split
        · show ∃ k, k ≤ 6 ∧ lkS' S pp n _ pp 9 = nI k
          unfold lkS'
          split
          · refine ⟨nc, hle, ?_⟩
            unfold addLS
            rw [up2_same, pk_un (by decide), put_o (by omega), hnc]
          · exact z
        · split
          · show ∃ k, k ≤ 6 ∧ wdS S pp n _ pp 9 = nI k
            unfold wdS
            split
            · exact ⟨nc, hle, by rw [up2_same, pk_un (by decide), hnc]⟩
            · exact z
          · split
            · show ∃ k, k ≤ 6 ∧ szS S pp n _ pp 9 = nI k
              unfold szS
              split
              · refine ⟨nc, hle, ?_⟩
                unfold rszS
                rw [up2_same, pk_un (by decide), up2_same, pk_un (by decide), up2_same, pk_un (by decide), up2_same, pk_un (by decide), hnc]
              · exact z
            · exact z
theorem fcQ_b {S : Sto} {pp n : Nat} {q : Qr} (hb : qBound n q) (ha : q.2.2.1 < n) : qBound n (fcQ S pp n q) := qB_sign (fcR_b hb ha _) (by decide)
theorem cl_b {S : Sto} {pp n nc : Nat} {q : Qr} (hb : qBound n q) : qBound n (clR S pp n nc q).2 := by
  have hs := qB_skip (t := S 2) hb
  unfold clR
  dsimp only
  split
  · exact qB_fail hs (by decide)
  · split
    · next w =>
      have ha : (qSkip (S 2) n q).2.2.1 < n := cur_lt w (by decide)
      refine qB_sign ?_ (by decide)
      unfold ckQ4
      split
      · exact qB_num (qB_num (qB_word hs ha))
      · exact qB_fail (qB_num (qB_num (qB_word hs ha))) (by decide)
    · split
      · next w => exact fcQ_b hs (cur_lt w (by decide))
      · split
        · next w => exact qB_sign (qB_num (qB_word hs (cur_lt w (by decide)))) (by decide)
        · split
          · next w =>
            have h3 : qBound n (wdQ3 (S 2) n (qSkip (S 2) n q)) := qB_sign (qB_num (qB_word hs (cur_lt w (by decide)))) (by decide)
            unfold wdQ
            split
            · exact h3
            · exact h3
          · split
            · next w => exact qB_sign (qB_num (qB_num (qB_word hs (cur_lt w (by decide))))) (by decide)
            · exact qB_fail hs (by decide)
/-- clause by clause, as long as there is no fault -/
def ncN (S : Sto) (pp : Nat) : Nat := (S pp 9).toNatClampNeg
def rdG (pp n : Nat) : Nat → Sto → Qr → Sto × Qr
  | 0, T, q => (T, q)
  | f + 1, T, q => if q.1 = 0 then (if cur (T 2) n (skp (T 2) n q.2.2.1) = -1 then (T, qSkip (T 2) n q) else rdG pp n f (clR T pp n (ncN T pp) (qSkip (T 2) n q)).1 (clR T pp n (ncN T pp) (qSkip (T 2) n q)).2) else (T, q)
def rdR (S : Sto) (pp n : Nat) (q : Qr) : Sto × Qr := rdG pp n 240 (clrS S pp) (0, -1, 0, q.2.2.2.1, nI 0)
theorem RS_clr {S : Sto} {n : Nat} {q : Qr} {pp : Nat} (hp : pp ≠ 1) : clrS (RS S n q) pp = RS (clrS S pp) n q := by
  unfold clrS
  rw [RS_rsz hp, RS_up hp, RS_up hp, RS_up hp, RS_up hp]
theorem clr_n {S : Sto} (pp : Nat) : ncN (clrS S pp) pp ≤ 6 ∧ clrS S pp pp 9 = nI (ncN (clrS S pp) pp) := by
  have h : clrS S pp pp 9 = nI 0 := by unfold clrS; rw [up2_same, pk_un (by decide), up2_same, pk_us]
  unfold ncN
  rw [h]
  exact ⟨by decide, by decide⟩
theorem cl_n {S : Sto} {pp n : Nat} {q : Qr} (h : ncN S pp ≤ 6 ∧ S pp 9 = nI (ncN S pp)) : ncN (clR S pp n (ncN S pp) q).1 pp ≤ 6 ∧ (clR S pp n (ncN S pp) q).1 pp 9 = nI (ncN (clR S pp n (ncN S pp) q).1 pp) := by
  obtain ⟨k, hk, e⟩ := cl_9 (n := n) (q := q) h.2 h.1
  unfold ncN at e ⊢
  rw [e, nI_clamp (by omega)]
  exact ⟨hk, rfl⟩
set_option maxHeartbeats 4000000 in
set_option maxRecDepth 100000 in
theorem c_X8_read (l : Launch) (C : JC) (hC : JInj C) (S : Sto) (pp : Nat) (h0 : jsh pp = (0, 6)) (h1 : jsh (pp + 1) = (1, 4)) (h2 : jsh (pp + 2) = (1, 6)) (h3 : jsh (pp + 3) = (1, 6)) (h4 : jsh (pp + 4) = (1, 5)) (n : Nat) (hn : n ≤ 240) (q : Qr) (h100 : 90 < pp) : Con l C yX8_read cX8_read 3 (some .boolean) 6 [.ref (C.2.1 1), .ref (C.2.1 pp)] (RS S n q) (some (.int (if (rdR S pp n q).2.1 = 0 then nI 1 else nI 0))) (RS (rdR S pp n q).1 0 (rdR S pp n q).2) := by
  have p1 : pp ≠ 1 := by omega
  refine con_of RX8 1 [some (.ref (C.2.1 1)), some (.ref (C.2.1 pp)), none] (by decide) rfl hC (Nat.le_of_ble_eq_true rfl) rfl (Nat.le_of_ble_eq_true rfl) (fun E hE hR => ?_)
  refine j_aload0 hE dX8_read_0 ?_
  refine j_iconst hE (nI 0) dX8_read_1 kiconst_0 ?_
  refine j_puti hE pX8_27 dX8_read_2 (by first | assumption | rfl) rfl rfl ?_
  refine j_aload0 hE dX8_read_5 ?_
  refine j_iconst hE (nI 0) dX8_read_6 kiconst_0 ?_
  refine j_puti hE pX8_30 dX8_read_7 (by first | assumption | rfl) rfl rfl ?_
  refine j_aload0 hE dX8_read_10 ?_
  refine j_iconst hE (-1) dX8_read_11 kiconst_m1 ?_
  refine j_puti hE pX8_15 dX8_read_12 (by first | assumption | rfl) rfl rfl ?_
  refine j_aload0 hE dX8_read_15 ?_
  refine j_iconst hE (nI 0) dX8_read_16 kiconst_0 ?_
  refine j_puti hE pX8_33 dX8_read_17 (by first | assumption | rfl) rfl rfl ?_
  refine j_aload1 hE dX8_read_20 ?_
  refine j_V0v hE mX8_37 (c_X7_clear l C hC _ pp h0) dX8_read_21 (by first | assumption | rfl) (by decide) (Nat.le_of_ble_eq_true rfl) ?_
  refine j_eqS (S' := RS (clrS S pp) n (0, -1, 0, q.2.2.2.1, nI 0)) (by rw [show up2 (RS S n q) 1 4 (nI 0) = RS S n _ from RS_u4, show ∀ q, up2 (RS S n q) 1 2 (nI 0) = RS S n _ from fun q => RS_u2, RS_u3, RS_u6]; exact RS_clr p1) ?_
  refine j_iconst hE (nI 0) dX8_read_24 kiconst_0 ?_
  refine j_istore2 hE dX8_read_25 rfl ?_
  have L26 : ∀ (fu : Nat) (i : Nat) (T : Sto) (q0 : Qr), 240 - i < fu → (i ≤ 240) → (qBound n q0) → (ncN T pp ≤ 6 ∧ T pp 9 = nI (ncN T pp)) → (rdG pp n (240 - i) T q0 = rdR S pp n q) → J C E (RS T n q0) 26 [some (.ref (C.2.1 1)), some (.ref (C.2.1 pp)), some (.int (nI i))] [] := by
    intro fu
    induction fu with
    | zero => intro i T q0 hm; omega
    | succ fu ih =>
      intro i T q0 hm hi hq hnc6 hR2
      refine j_iload2 hE dX8_read_26 ?_
      refine j_sipush hE (nI 240) dX8_read_27 ksipush_240 ?_
      refine j_icmpge hE 59 dX8_read_30 (by decide) (fun c30 => ?_) (fun c30 => ?_)
      · skip
        have c30 : 240 ≤ i := (nI_leI (by omega) (by omega)).mp c30
        have hRR : (T, q0) = rdR S pp n q := by rw [← hR2, show 240 - i = 0 by omega]; rfl
        refine j_aload0 hE dX8_read_59 ?_
        refine j_iconst hE (nI 0) dX8_read_60 kiconst_0 ?_
        refine j_puti hE pX8_19 dX8_read_61 (by first | assumption | rfl) rfl rfl ?_
        refine j_aload0 hE dX8_read_64 ?_
        refine j_geti hE fX8_30 dX8_read_65 (by first | assumption | rfl) ?_
        refine j_ifne hE 75 dX8_read_68 (by decide) (fun c68 => ?_) (fun c68 => ?_)
        · skip
          have c68 : ¬ (rdR S pp n q).2.1 = 0 := by
            rw [← hRR]
            exact fun z => c68 (by show up2 (RS T n _) 1 1 (nI 0) 1 2 = 0; rw [show (nI 0) = nI 0 from rfl, RS_u1, RS_2]; exact congrArg nI z)
          refine j_iconst hE (nI 0) dX8_read_75 kiconst_0 ?_
          exact j_zret hE hR dX8_read_76 (by first
              | (rw [if_pos c68]; first | done | rfl)
              | (rw [if_neg c68]; first | done | rfl)) (by rw [← hRR]; exact RS_u1) nar_c
        · skip
          have c68 : (rdR S pp n q).2.1 = 0 := by
            rw [← hRR]
            have c := c68
            rw [RS_u1, RS_2] at c
            refine (nI_z ?_).mp c
            first | exact Nat.le_trans hq.1 (by decide)
          refine j_iconst hE (nI 1) dX8_read_71 kiconst_1 ?_
          refine j_goto hE 76 dX8_read_72 (by decide) ?_
          exact j_zret hE hR dX8_read_76 (by first
              | (rw [if_pos c68]; first | done | rfl)
              | (rw [if_neg c68]; first | done | rfl)) (by rw [← hRR]; exact RS_u1) nar_c
      · skip
        have c30 : i < 240 := Nat.lt_of_not_le (fun z => c30 (nI_le z (by omega)))
        refine j_aload0 hE dX8_read_33 ?_
        refine j_geti hE fX8_30 dX8_read_34 (by first | assumption | rfl) ?_
        refine j_ifne hE 59 dX8_read_37 (by decide) (fun c37 => ?_) (fun c37 => ?_)
        · skip
          rw [RS_2] at c37
          have c37 : ¬ q0.1 = 0 := fun z => c37 ((nI_z (Nat.le_trans hq.1 (by decide))).mpr z)
          have hRR : (T, q0) = rdR S pp n q := by rw [← hR2, show 240 - i = 240 - (i + 1) + 1 by omega, rdG, if_neg c37]
          refine j_aload0 hE dX8_read_59 ?_
          refine j_iconst hE (nI 0) dX8_read_60 kiconst_0 ?_
          refine j_puti hE pX8_19 dX8_read_61 (by first | assumption | rfl) rfl rfl ?_
          refine j_aload0 hE dX8_read_64 ?_
          refine j_geti hE fX8_30 dX8_read_65 (by first | assumption | rfl) ?_
          refine j_ifne hE 75 dX8_read_68 (by decide) (fun c68 => ?_) (fun c68 => ?_)
          · skip
            have c68 : ¬ (rdR S pp n q).2.1 = 0 := by
              rw [← hRR]
              exact fun z => c68 (by show up2 (RS T n _) 1 1 (nI 0) 1 2 = 0; rw [show (nI 0) = nI 0 from rfl, RS_u1, RS_2]; exact congrArg nI z)
            refine j_iconst hE (nI 0) dX8_read_75 kiconst_0 ?_
            exact j_zret hE hR dX8_read_76 (by first
                | (rw [if_pos c68]; first | done | rfl)
                | (rw [if_neg c68]; first | done | rfl)) (by rw [← hRR]; exact RS_u1) nar_c
          · skip
            have c68 : (rdR S pp n q).2.1 = 0 := by
              rw [← hRR]
              have c := c68
              rw [RS_u1, RS_2] at c
              refine (nI_z ?_).mp c
              first | exact Nat.le_trans hq.1 (by decide)
            refine j_iconst hE (nI 1) dX8_read_71 kiconst_1 ?_
            refine j_goto hE 76 dX8_read_72 (by decide) ?_
            exact j_zret hE hR dX8_read_76 (by first
                | (rw [if_pos c68]; first | done | rfl)
                | (rw [if_neg c68]; first | done | rfl)) (by rw [← hRR]; exact RS_u1) nar_c
        · skip
          rw [RS_2] at c37
          have c37 : q0.1 = 0 := (nI_z (Nat.le_trans hq.1 (by decide))).mp c37
          refine j_aload0 hE dX8_read_40 ?_
          refine j_V0i hE mX8_42 (c_X8_peek l C hC T n hn q0 hq) dX8_read_41 (by first | assumption | rfl) (by decide) (Nat.le_of_ble_eq_true rfl) ?_
          refine j_iconst hE (-1) dX8_read_44 kiconst_m1 ?_
          refine j_icmpeq hE 59 dX8_read_45 (by decide) (fun c45 => ?_) (fun c45 => ?_)
          · skip
            have hRR : (T, qSkip (T 2) n q0) = rdR S pp n q := by rw [← hR2, show 240 - i = 240 - (i + 1) + 1 by omega, rdG, if_pos c37, if_pos c45]
            refine j_aload0 hE dX8_read_59 ?_
            refine j_iconst hE (nI 0) dX8_read_60 kiconst_0 ?_
            refine j_puti hE pX8_19 dX8_read_61 (by first | assumption | rfl) rfl rfl ?_
            refine j_aload0 hE dX8_read_64 ?_
            refine j_geti hE fX8_30 dX8_read_65 (by first | assumption | rfl) ?_
            refine j_ifne hE 75 dX8_read_68 (by decide) (fun c68 => ?_) (fun c68 => ?_)
            · skip
              have c68 : ¬ (rdR S pp n q).2.1 = 0 := by
                rw [← hRR]
                exact fun z => c68 (by show up2 (RS T n _) 1 1 (nI 0) 1 2 = 0; rw [show (nI 0) = nI 0 from rfl, RS_u1, RS_2]; exact congrArg nI z)
              refine j_iconst hE (nI 0) dX8_read_75 kiconst_0 ?_
              exact j_zret hE hR dX8_read_76 (by first
                  | (rw [if_pos c68]; first | done | rfl)
                  | (rw [if_neg c68]; first | done | rfl)) (by rw [← hRR]; exact RS_u1) nar_c
            · skip
              have c68 : (rdR S pp n q).2.1 = 0 := by
                rw [← hRR]
                have c := c68
                rw [RS_u1, RS_2] at c
                refine (nI_z ?_).mp c
                first | exact Nat.le_trans hq.1 (by decide)
              refine j_iconst hE (nI 1) dX8_read_71 kiconst_1 ?_
              refine j_goto hE 76 dX8_read_72 (by decide) ?_
              exact j_zret hE hR dX8_read_76 (by first
                  | (rw [if_pos c68]; first | done | rfl)
                  | (rw [if_neg c68]; first | done | rfl)) (by rw [← hRR]; exact RS_u1) nar_c
          · skip
            refine j_aload0 hE dX8_read_48 ?_
            refine j_aload1 hE dX8_read_49 ?_
            refine j_V1v hE mX8_46 (c_X8_readClause l C hC T pp h0 h1 h2 h3 h4 n hn _ (qB_skip hq) (ncN T pp) hnc6.2 hnc6.1) dX8_read_50 (by first | assumption | rfl) (by decide) (Nat.le_of_ble_eq_true rfl) ?_
            refine j_iinc2 hE (nI (i + 1)) dX8_read_53 (nI_inc _) rfl ?_
            refine j_goto hE 26 dX8_read_56 (by decide) ?_
            exact ih (i + 1) _ _ (by omega) (by omega) (cl_b (qB_skip hq)) (cl_n hnc6) (by rw [← hR2, show 240 - i = 240 - (i + 1) + 1 by omega, rdG, if_pos c37, if_neg c45])
  exact L26 241 0 _ _ (by omega) (by omega) ⟨Nat.zero_le _, Nat.zero_le _, trivial⟩ (clr_n pp) rfl

set_option maxHeartbeats 4000000 in
set_option maxRecDepth 100000 in
theorem c_X10_feed (l : Launch) (C : JC) (hC : JInj C) (S : Sto) (n : Nat) (hn : n ≤ 240) (q : Qr) (x : Int32) : Con l C yX10_feed cX10_feed 2 (some .int) 4 [.ref (C.2.1 0), .int x] (RS S n q) (some (.int (if outP x (nI 0) (nI 255) then -1000000002 else if n < 240 then nI (n + 1) else -1000000004))) (if outP x (nI 0) (nI 255) then RS S n q else if n < 240 then RS (up2 S 2 n x) (n + 1) q else RS S n q) := by
  refine con_of RX10 0 [some (.ref (C.2.1 0)), some (.int x)] (by decide) rfl hC (Nat.le_of_ble_eq_true rfl) rfl (Nat.le_of_ble_eq_true rfl) (fun E hE hR => ?_)
  refine j_iload1 hE dX10_feed_0 ?_
  refine j_iconst hE (nI 0) dX10_feed_1 kiconst_0 ?_
  refine j_sipush hE (nI 255) dX10_feed_2 ksipush_255 ?_
  refine j_S3i hE mX10_75 (c_X10_outside l C hC _ _ _ _) dX10_feed_5 (by decide) (Nat.le_of_ble_eq_true rfl) ?_
  first | refine j_ifeqP hE 16 dX10_feed_8 (by decide) (fun c8 => ?_) (fun c8 => ?_) | refine j_ifeq hE 16 dX10_feed_8 (by decide) (fun c8 => ?_) (fun c8 => ?_)
  · skip
    refine j_aload0 hE dX10_feed_16 ?_
    refine j_getr hE fX10_10 dX10_feed_17 (j := 1) (by first | assumption | rfl) (rfl) ?_
    refine j_iload1 hE dX10_feed_20 ?_
    refine j_V1i hE mX10_80 (c_X8_add l C hC S n hn q x) dX10_feed_21 (by first | assumption | rfl) (by decide) (Nat.le_of_ble_eq_true rfl) ?_
    exact j_iret hE hR dX10_feed_24 (by first
        | (exact (if_pos c8).symm)
        | (exact (if_neg c8).symm)) (by first
        | (exact (if_pos c8).symm)
        | (exact (if_neg c8).symm))
  · skip
    refine j_ldc hE dX10_feed_11 kX10_79 ?_
    refine j_goto hE 24 dX10_feed_13 (by decide) ?_
    exact j_iret hE hR dX10_feed_24 (by first
        | (exact (if_pos c8).symm)
        | (exact (if_neg c8).symm)) (by first
        | (exact (if_pos c8).symm)
        | (exact (if_neg c8).symm))

theorem rdG_o {pp n i : Nat} (h : i < pp ∨ pp + 4 < i) : ∀ (f : Nat) (T : Sto) (q : Qr), (rdG pp n f T q).1 i = T i
  | 0, T, q => rfl
  | f + 1, T, q => by
    unfold rdG
    split
    · split
      · rfl
      · rw [rdG_o h f, cl_o h]
    · rfl
theorem rd_o {S : Sto} {pp n i : Nat} {q : Qr} (h : i < pp ∨ pp + 4 < i) : (rdR S pp n q).1 i = S i := by
  unfold rdR
  rw [rdG_o h, clr_o (by omega)]
theorem beg_o {S : Sto} {dd pp i : Nat} (h0 : i ≠ dd) (h1 : i ≠ dd + 1) (h2 : i ≠ dd + 2) : begS S dd pp i = S i := by
  unfold begS
  rw [up2_ne _ _ _ h0, up2_ne _ _ _ h0, up2_ne _ _ _ h0, up2_ne _ _ _ h0, up2_ne _ _ _ h0, upA_ne _ _ h2, upA_ne _ _ h1]
def ikS (S : Sto) : Nat → Sto
  | 0 => S
  | i + 1 => up2 (ikS S i) (106 + 4 * i) 2 (nI 0)
theorem ik_o {S : Sto} {j : Nat} (h : j < 106 ∨ 113 < j) : ∀ i, i ≤ 2 → ikS S i j = S j
  | 0, _ => rfl
  | i + 1, hi => by rw [ikS, up2_ne _ _ _ (by omega), ik_o h i (by omega)]
def wallT (S : Sto) (sp pp : Nat) : Sto := up2 (up2 (begS (up2 (up2 S 0 8 (nI sp)) 0 9 (nI pp)) 3 sp) 91 2 (nI 0)) 41 2 (nI 0)
def wallS (S : Sto) (sp pp n : Nat) (q : Qr) : Sto := ikS (wallT (RS (rdR S sp n q).1 0 (rdR S sp n q).2) sp pp) 2
theorem rf_sp {S T : Sto} {sp : Nat} (h : T 0 = S 0) (hsp : (S 0 9).toNatClampNeg = sp) : rf T 0 9 = sp := by
  unfold rf
  rw [if_pos rfl, if_neg (by decide), if_pos rfl, h]
  exact hsp
theorem rf_wt {S : Sto} {sp pp : Nat} (h : sp < 2 ^ 31) : rf (up2 (up2 S 0 8 (nI sp)) 0 9 (nI pp)) 0 8 = sp := by
  unfold rf
  rw [if_pos rfl, if_pos rfl, up2_same, pk_un (by decide), up2_same, pk_us, nI_clamp h]
theorem rf_c {T U : Sto} {k : Nat} (h : T 0 = U 0) : rf T 0 k = rf U 0 k := by
  unfold rf
  rw [h]
theorem wallT_0 {S : Sto} {sp pp : Nat} : wallT S sp pp 0 = up2 (up2 S 0 8 (nI sp)) 0 9 (nI pp) 0 := by
  unfold wallT
  rw [up2_ne (j := 0) _ _ _ (by decide), up2_ne (j := 0) _ _ _ (by decide), beg_o (by decide) (by decide) (by decide)]
theorem wallT_s {S : Sto} {sp pp : Nat} (h : 95 < sp) : wallT S sp pp sp = S sp := by
  unfold wallT
  rw [up2_ne (j := sp) _ _ _ (by omega), up2_ne (j := sp) _ _ _ (by omega), beg_o (by omega) (by omega) (by omega), up2_ne (j := sp) _ _ _ (by omega), up2_ne (j := sp) _ _ _ (by omega)]
theorem img_sh0 : ∀ k, k < 2 → jsh (106 + 4 * k) = (0, 4) := by decide
set_option maxHeartbeats 4000000 in
set_option maxRecDepth 100000 in
theorem c_X10_wall (l : Launch) (C : JC) (hC : JInj C) (S : Sto) (pp : Nat) (hpl : (S 0 8).toNatClampNeg = pp) (h0 : jsh pp = (0, 6)) (h1 : jsh (pp + 1) = (1, 4)) (h2 : jsh (pp + 2) = (1, 6)) (h3 : jsh (pp + 3) = (1, 6)) (h4 : jsh (pp + 4) = (1, 5)) (sp : Nat) (hsp : (S 0 9).toNatClampNeg = sp) (k0 : jsh sp = (0, 6)) (k1 : jsh (sp + 1) = (1, 4)) (k2 : jsh (sp + 2) = (1, 6)) (k3 : jsh (sp + 3) = (1, 6)) (k4 : jsh (sp + 4) = (1, 5)) (h95 : 95 < sp) (h105 : sp < 106) (n : Nat) (hn : n ≤ 240) (q : Qr)  : Con l C yX10_wall cX10_wall 3 (some .int) 8 [.ref (C.2.1 0)] (RS S n q) (some (.int (if (rdR S sp n q).2.1 = 0 then plCells (rdR S sp n q).1 sp else -10 - nI (rdR S sp n q).2.1))) (if (rdR S sp n q).2.1 = 0 then wallS S sp pp n q else RS (rdR S sp n q).1 0 (rdR S sp n q).2) := by
  refine con_of RX10 2 [some (.ref (C.2.1 0)), none, none] (by decide) rfl hC (Nat.le_of_ble_eq_true rfl) rfl (Nat.le_of_ble_eq_true rfl) (fun E hE hR => ?_)
  refine j_aload0 hE dX10_wall_0 ?_
  refine j_getr hE fX10_10 dX10_wall_1 (j := 1) (by first | assumption | rfl) (rfl) ?_
  refine j_aload0 hE dX10_wall_4 ?_
  refine j_getr hE fX10_71 dX10_wall_5 (j := sp) (by first | assumption | rfl) (rf_sp (by rw [RS_o (by decide)]) hsp) ?_
  refine j_V1i hE mX10_84 (c_X8_read l C hC S sp k0 k1 k2 k3 k4 n hn q (by omega)) dX10_wall_8 (by first | assumption | rfl) (by decide) (Nat.le_of_ble_eq_true rfl) ?_
  first | refine j_ifneP hE 25 dX10_wall_11 (by decide) (fun c11 => ?_) (fun c11 => ?_) | refine j_ifne hE 25 dX10_wall_11 (by decide) (fun c11 => ?_) (fun c11 => ?_)
  · skip
    refine j_aload0 hE dX10_wall_25 ?_
    refine j_getr hE fX10_67 dX10_wall_26 (j := pp) (by first | assumption | rfl) (rf_pl (by rw [RS_o (by decide), rd_o (Or.inl (by omega))]) hpl) ?_
    refine j_astore1 hE dX10_wall_29 rfl ?_
    refine j_aload0 hE dX10_wall_30 ?_
    refine j_aload0 hE dX10_wall_31 ?_
    refine j_getr hE fX10_71 dX10_wall_32 (j := sp) (by first | assumption | rfl) (rf_sp (by rw [RS_o (by decide), rd_o (Or.inl (by omega))]) hsp) ?_
    refine j_putp hE fX10_67 (by decide) (jsh_lt k0 (by decide)) dX10_wall_35 ?_
    refine j_aload0 hE dX10_wall_38 ?_
    refine j_aload1 hE dX10_wall_39 ?_
    refine j_putp hE fX10_71 (by decide) (jsh_lt h0 (by decide)) dX10_wall_40 ?_
    refine j_aload0 hE dX10_wall_43 ?_
    refine j_getr hE fX10_19 dX10_wall_44 (j := 3) (by first | assumption | rfl) (rfl) ?_
    refine j_aload0 hE dX10_wall_47 ?_
    refine j_getr hE fX10_67 dX10_wall_48 (j := sp) (by first | assumption | rfl) (rf_wt (by omega)) ?_
    refine j_V1v hE mX10_92 (c_X1_begin l C hC _ 3 rfl rfl rfl sp k0 k1 k2 k3 k4 (by omega) (by omega)) dX10_wall_51 (by first | assumption | rfl) (by decide) (Nat.le_of_ble_eq_true rfl) ?_
    refine j_aload0 hE dX10_wall_54 ?_
    refine j_getr hE fX10_47 dX10_wall_55 (j := 91) (by first | assumption | rfl) (rfl) ?_
    refine j_V0v hE mX10_96 (c_X0_clear l C hC _) dX10_wall_58 (by first | assumption | rfl) (by decide) (Nat.le_of_ble_eq_true rfl) ?_
    refine j_aload0 hE dX10_wall_61 ?_
    refine j_getr hE fX10_40 dX10_wall_62 (j := 41) (by first | assumption | rfl) (rfl) ?_
    refine j_V0v hE mX10_99 (c_X6_clear l C hC _) dX10_wall_65 (by first | assumption | rfl) (by decide) (Nat.le_of_ble_eq_true rfl) ?_
    refine j_iconst hE (nI 0) dX10_wall_68 kiconst_0 ?_
    refine j_istore2 hE dX10_wall_69 rfl ?_
    have L70 : ∀ (fu : Nat) (i : Nat), 2 - i < fu → (i ≤ 2) → J C E (ikS (wallT (RS (rdR S sp n q).1 0 (rdR S sp n q).2) sp pp) i) 70 [some (.ref (C.2.1 0)), some (.ref (C.2.1 pp)), some (.int (nI i))] [] := by
      intro fu
      induction fu with
      | zero => intro i hm; omega
      | succ fu ih =>
        intro i hm hi
        refine j_iload2 hE dX10_wall_70 ?_
        refine j_aload0 hE dX10_wall_71 ?_
        refine j_getr hE fX10_60 dX10_wall_72 (j := 95) (by first | assumption | rfl) (rfl) ?_
        refine j_alen4 hE dX10_wall_75 (nI 2) rfl rfl ?_
        refine j_icmpge hE 95 dX10_wall_76 (by decide) (fun c76 => ?_) (fun c76 => ?_)
        · skip
          have c76 := (nI_leI (by omega) (by omega)).mp c76
          have hii : i = 2 := by omega
          subst hii
          refine j_aload0 hE dX10_wall_95 ?_
          refine j_getr hE fX10_67 dX10_wall_96 (j := sp) (by first | assumption | rfl) ((rf_c ((ik_o (Or.inl (by decide)) 2 (by decide)).trans wallT_0)).trans (rf_wt (by omega))) ?_
          refine j_V0i hE mX10_104 (c_X7_cells l C hC _ sp k0) dX10_wall_99 (by first | assumption | rfl) (by decide) (Nat.le_of_ble_eq_true rfl) ?_
          exact j_iret hE hR dX10_wall_102 (by rw [if_pos c11, plCells_c ((ik_o (Or.inl h105) 2 (by decide)).trans ((wallT_s h95).trans (RS_o (by omega))))]) (by rw [if_pos c11]; rfl)
        · skip
          have c76 : i < 2 := Nat.lt_of_not_le (fun q => c76 (nI_le q (by omega)))
          refine j_aload0 hE dX10_wall_79 ?_
          refine j_getr hE fX10_60 dX10_wall_80 (j := 95) (by first | assumption | rfl) (rfl) ?_
          refine j_iload2 hE dX10_wall_83 ?_
          refine j_aald4 (j := 106 + 4 * i) hE dX10_wall_84 rfl (vp_in_nI (by omega) (by decide)) (by rw [nI_clamp (by omega)]; rfl) ?_
          refine j_iconst hE (nI 0) dX10_wall_85 kiconst_0 ?_
          refine j_puti hE pX10_100 dX10_wall_86 (img_sh0 i (by omega)) rfl rfl ?_
          refine j_iinc2 hE (nI (i + 1)) dX10_wall_89 (nI_inc _) rfl ?_
          refine j_goto hE 70 dX10_wall_92 (by decide) ?_
          exact ih (i + 1) (by omega) (by omega)
    exact L70 3 0 (by omega) (by omega)
  · skip
    refine j_bipush hE (-10) dX10_wall_14 kbipush_m10 ?_
    refine j_aload0 hE dX10_wall_16 ?_
    refine j_getr hE fX10_10 dX10_wall_17 (j := 1) (by first | assumption | rfl) (rfl) ?_
    refine j_geti hE fX10_88 dX10_wall_20 (by first | assumption | rfl) ?_
    refine j_isub hE dX10_wall_23 ?_
    exact j_iret hE hR dX10_wall_24 (by rw [if_neg c11, RS_2]) (by rw [if_neg c11])

