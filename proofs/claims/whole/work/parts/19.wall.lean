/-! what a clause leaves alone -/
theorem addL_o {S : Sto} {pp i : Nat} {x : Int32} (h0 : i ≠ pp) (h1 : i ≠ pp + 1) : addLS S pp x i = S i := by
  unfold addLS
  rw [up2_ne _ _ _ h0, put_o h1]
theorem addC_o {S : Sto} {pp i : Nat} {x y : Int32} (h0 : i ≠ pp) (h1 : i ≠ pp + 2) (h2 : i ≠ pp + 3) : addCS S pp x y i = S i := by
  unfold addCS
  rw [up2_ne _ _ _ h0, put_o h2, put_o h1]
theorem addF_o {S : Sto} {pp i : Nat} {x : Int32} (h0 : i ≠ pp) (h1 : i ≠ pp + 4) : addFS S pp x i = S i := by
  unfold addFS
  rw [up2_ne _ _ _ h0, put_o h1]
theorem rsz_o {S : Sto} {pp i k : Nat} {h w : Int32} (h0 : i ≠ pp) : rszS S pp h w k i = S i := by
  unfold rszS
  rw [up2_ne _ _ _ h0, up2_ne _ _ _ h0, up2_ne _ _ _ h0]
theorem clr_o {S : Sto} {pp i : Nat} (h0 : i ≠ pp) : clrS S pp i = S i := by
  unfold clrS
  rw [up2_ne _ _ _ h0, up2_ne _ _ _ h0, up2_ne _ _ _ h0, up2_ne _ _ _ h0, rsz_o h0]
theorem cl_o {S : Sto} {pp n nc i : Nat} {q : Qr} (h : i < pp ∨ pp + 4 < i) : (clR S pp n nc q).1 i = S i := by
  unfold clR
  dsimp only
  split
  · rfl
  · split
    · show ckS S pp n nc _ i = S i
      unfold ckS
      split
      · rw [addC_o (by omega) (by omega) (by omega)]
      · rfl
    · split
      · show fcS S pp n _ i = S i
        unfold fcS
        split
        · rw [addF_o (by omega) (by omega)]
        · rfl
      · split
        · show lkS' S pp n _ i = S i
          unfold lkS'
          split
          · rw [addL_o (by omega) (by omega)]
          · rfl
        · split
          · show wdS S pp n _ i = S i
            unfold wdS
            split
            · rw [up2_ne _ _ _ (by omega)]
            · rfl
          · split
            · show szS S pp n _ i = S i
              unfold szS
              split
              · rw [rsz_o (by omega)]
              · rfl
            · rfl
/-! a fault stays -/
theorem num_k {t : Nat → Int32} {n : Nat} {q : Qr} {lo hi : Int32} (h : (tnQ t n q lo hi).1 = 0) : q.1 = 0 := by
  unfold tnQ at h
  split at h
  · assumption
  · exact h
theorem word_k {q : Qr} {b : Bool} (h : (qWord q b).1 = 0) : b = false ∧ q.1 = 0 := by
  cases b with
  | true => exact absurd h (fail_k (q := q) (w := nI q.2.2.1) (by decide : (3 : Nat) ≠ 0))
  | false => exact ⟨rfl, h⟩
theorem fail_k0 {q : Qr} {k : Nat} {w : Int32} (hk : k ≠ 0) (h : (qFail q k w).1 = 0) : False := fail_k hk h
theorem ck_nc {S : Sto} {pp n nc : Nat} {q : Qr} (h : okSign (S 2) n (ckQ4 S pp n nc q) (nI 59)) : S pp 9 < nI 6 := by
  have h1 : (ckQ4 S pp n nc q).1 = 0 := h.1
  unfold ckQ4 at h1
  split at h1
  · have h2 := (word_k (num_k (num_k h1))).1
    unfold ckB at h2
    simpa using h2
  · exact (fail_k0 (by decide) h1).elim
theorem cl_9 {S : Sto} {pp n nc : Nat} {q : Qr} (hnc : S pp 9 = nI nc) (hle : nc ≤ 6) : ∃ k, k ≤ 6 ∧ (clR S pp n nc q).1 pp 9 = nI k := by
  unfold clR
  dsimp only
  have z : ∃ k, k ≤ 6 ∧ S pp 9 = nI k := ⟨nc, hle, hnc⟩
  split
  · exact z
  · split
    · show ∃ k, k ≤ 6 ∧ ckS S pp n nc _ pp 9 = nI k
      unfold ckS
      split
      · next h =>
        have h6 := ck_nc h
        rw [hnc] at h6
        have h6 := (nI_ltI (by omega) (by decide)).mp h6
        refine ⟨nc + 1, by omega, ?_⟩
        unfold addCS
        dsimp only
        rw [up2_same, pk_us, put_o (by omega), put_o (by omega), hnc, nI_add]
      · exact z
    · split
      · show ∃ k, k ≤ 6 ∧ fcS S pp n _ pp 9 = nI k
        unfold fcS
        split
        · refine ⟨nc, hle, ?_⟩
          unfold addFS
          dsimp only
          rw [up2_same, pk_un (by decide), put_o (by omega), hnc]
        · exact z
      · split
        · show ∃ k, k ≤ 6 ∧ lkS' S pp n _ pp 9 = nI k
          unfold lkS'
          split
          · refine ⟨nc, hle, ?_⟩
            unfold addLS
            dsimp only
            rw [up2_same, pk_un (by decide), put_o (by omega), hnc]
          · exact z
        · split
          · show ∃ k, k ≤ 6 ∧ wdS S pp n _ pp 9 = nI k
            unfold wdS
            split
            · exact ⟨nc, hle, by rw [up2_same, pk_un (by decide), hnc]⟩
            · exact z
          · split
            · show ∃ k, k ≤ 6 ∧ szS S pp n _ pp 9 = nI k
              unfold szS
              split
              · refine ⟨nc, hle, ?_⟩
                unfold rszS
                rw [up2_same, pk_un (by decide), up2_same, pk_un (by decide), up2_same, pk_un (by decide), hnc]
              · exact z
            · exact z
theorem fcQ_b {S : Sto} {pp n : Nat} {q : Qr} (hb : qBound n q) (ha : q.2.2.1 < n) : qBound n (fcQ S pp n q) := qB_sign (fcR_b hb ha _) (by decide)
theorem cl_b {S : Sto} {pp n nc : Nat} {q : Qr} (hb : qBound n q) : qBound n (clR S pp n nc q).2 := by
  have hs := qB_skip (t := S 2) hb
  unfold clR
  dsimp only
  split
  · exact qB_fail hs (by decide)
  · split
    · next w =>
      have ha : (qSkip (S 2) n q).2.2.1 < n := cur_lt w (by decide)
      refine qB_sign ?_ (by decide)
      unfold ckQ4
      split
      · exact qB_num (qB_num (qB_word hs ha))
      · exact qB_fail (qB_num (qB_num (qB_word hs ha))) (by decide)
    · split
      · next w => exact fcQ_b hs (cur_lt w (by decide))
      · split
        · next w => exact qB_sign (qB_num (qB_word hs (cur_lt w (by decide)))) (by decide)
        · split
          · next w =>
            have h3 : qBound n (wdQ3 (S 2) n (qSkip (S 2) n q)) := qB_sign (qB_num (qB_word hs (cur_lt w (by decide)))) (by decide)
            unfold wdQ
            split
            · exact h3
            · exact h3
          · split
            · next w => exact qB_sign (qB_num (qB_num (qB_word hs (cur_lt w (by decide))))) (by decide)
            · exact qB_fail hs (by decide)
/-- clause by clause, as long as there is no fault -/
def ncN (S : Sto) (pp : Nat) : Nat := (S pp 9).toNatClampNeg
def rdG (pp n : Nat) : Nat → Sto → Qr → Sto × Qr
  | 0, T, q => (T, q)
  | f + 1, T, q => if q.1 = 0 then (if cur (T 2) n (skp (T 2) n q.2.2.1) = -1 then (T, qSkip (T 2) n q) else rdG pp n f (clR T pp n (ncN T pp) (qSkip (T 2) n q)).1 (clR T pp n (ncN T pp) (qSkip (T 2) n q)).2) else (T, q)
def rdR (S : Sto) (pp n : Nat) (q : Qr) : Sto × Qr := rdG pp n 240 (clrS S pp) (0, -1, 0, q.2.2.2.1, nI 0)
theorem RS_clr {S : Sto} {n : Nat} {q : Qr} {pp : Nat} (hp : pp ≠ 1) : clrS (RS S n q) pp = RS (clrS S pp) n q := by
  unfold clrS
  rw [RS_rsz hp, RS_up hp, RS_up hp, RS_up hp, RS_up hp]
theorem clr_n {S : Sto} (pp : Nat) : ncN (clrS S pp) pp ≤ 6 ∧ clrS S pp pp 9 = nI (ncN (clrS S pp) pp) := by
  have h : clrS S pp pp 9 = nI 0 := by unfold clrS; rw [up2_same, pk_un (by decide), up2_same, pk_us]
  unfold ncN
  rw [h]
  exact ⟨by decide, by decide⟩
theorem cl_n {S : Sto} {pp n : Nat} {q : Qr} (h : ncN S pp ≤ 6 ∧ S pp 9 = nI (ncN S pp)) : ncN (clR S pp n (ncN S pp) q).1 pp ≤ 6 ∧ (clR S pp n (ncN S pp) q).1 pp 9 = nI (ncN (clR S pp n (ncN S pp) q).1 pp) := by
  obtain ⟨k, hk, e⟩ := cl_9 (n := n) (q := q) h.2 h.1
  unfold ncN at e ⊢
  rw [e, nI_clamp (by omega)]
  exact ⟨hk, rfl⟩
set_option maxHeartbeats 4000000 in
set_option maxRecDepth 100000 in
theorem c_X8_read (l : Launch) (C : JC) (hC : JInj C) (S : Sto) (pp : Nat) (h0 : jsh pp = (0, 6)) (h1 : jsh (pp + 1) = (1, 4)) (h2 : jsh (pp + 2) = (1, 6)) (h3 : jsh (pp + 3) = (1, 6)) (h4 : jsh (pp + 4) = (1, 5)) (n : Nat) (hn : n ≤ 240) (q : Qr) (hb : qBound n q) (h100 : 90 < pp) : Con l C yX8_read cX8_read 3 (some .boolean) 6 [.ref (C.2.1 1), .ref (C.2.1 pp)] (RS S n q) (some (.int (if (rdR S pp n q).2.1 = 0 then nI 1 else nI 0))) (RS (rdR S pp n q).1 0 (rdR S pp n q).2) := by
  have p1 : pp ≠ 1 := by omega
  refine con_of RX8 1 [some (.ref (C.2.1 1)), some (.ref (C.2.1 pp)), none] (by decide) rfl hC (Nat.le_of_ble_eq_true rfl) rfl (Nat.le_of_ble_eq_true rfl) (fun E hE hR => ?_)
  refine j_aload0 hE dX8_read_0 ?_
  refine j_iconst hE (nI 0) dX8_read_1 kiconst_0 ?_
  refine j_puti hE pX8_27 dX8_read_2 (by first | assumption | rfl) rfl rfl ?_
  refine j_aload0 hE dX8_read_5 ?_
  refine j_iconst hE (nI 0) dX8_read_6 kiconst_0 ?_
  refine j_puti hE pX8_30 dX8_read_7 (by first | assumption | rfl) rfl rfl ?_
  refine j_aload0 hE dX8_read_10 ?_
  refine j_iconst hE (-1) dX8_read_11 kiconst_m1 ?_
  refine j_puti hE pX8_15 dX8_read_12 (by first | assumption | rfl) rfl rfl ?_
  refine j_aload0 hE dX8_read_15 ?_
  refine j_iconst hE (nI 0) dX8_read_16 kiconst_0 ?_
  refine j_puti hE pX8_33 dX8_read_17 (by first | assumption | rfl) rfl rfl ?_
  refine j_aload1 hE dX8_read_20 ?_
  refine j_V0v hE mX8_37 (c_X7_clear l C hC _ pp h0) dX8_read_21 (by first | assumption | rfl) (by decide) (Nat.le_of_ble_eq_true rfl) ?_
  refine j_eqS (S' := RS (clrS S pp) n (0, -1, 0, q.2.2.2.1, nI 0)) (by rw [show up2 (RS S n q) 1 4 (nI 0) = RS S n _ from RS_u4, show ∀ q, up2 (RS S n q) 1 2 (nI 0) = RS S n _ from fun q => RS_u2, RS_u3, RS_u6]; exact RS_clr p1) ?_
  refine j_iconst hE (nI 0) dX8_read_24 kiconst_0 ?_
  refine j_istore2 hE dX8_read_25 rfl ?_
  have L26 : ∀ (fu : Nat) (i : Nat) (T : Sto) (q0 : Qr), 240 - i < fu → (i ≤ 240) → (qBound n q0) → (ncN T pp ≤ 6 ∧ T pp 9 = nI (ncN T pp)) → (rdG pp n (240 - i) T q0 = rdR S pp n q) → J C E (RS T n q0) 26 [some (.ref (C.2.1 1)), some (.ref (C.2.1 pp)), some (.int (nI i))] [] := by
    intro fu
    induction fu with
    | zero => intro i T q0 hm; omega
    | succ fu ih =>
      intro i T q0 hm hi hq hnc6 hR2
      refine j_iload2 hE dX8_read_26 ?_
      refine j_sipush hE (nI 240) dX8_read_27 ksipush_240 ?_
      refine j_icmpge hE 59 dX8_read_30 (by decide) (fun c30 => ?_) (fun c30 => ?_)
      · skip
        have c30 : 240 ≤ i := (nI_leI (by omega) (by omega)).mp c30
        have hRR : (T, q0) = rdR S pp n q := by rw [← hR2, show 240 - i = 0 by omega]; rfl
        refine j_aload0 hE dX8_read_59 ?_
        refine j_iconst hE (nI 0) dX8_read_60 kiconst_0 ?_
        refine j_puti hE pX8_19 dX8_read_61 (by first | assumption | rfl) rfl rfl ?_
        refine j_aload0 hE dX8_read_64 ?_
        refine j_geti hE fX8_30 dX8_read_65 (by first | assumption | rfl) ?_
        refine j_ifne hE 75 dX8_read_68 (by decide) (fun c68 => ?_) (fun c68 => ?_)
        · skip
          have c68 : ¬ (rdR S pp n q).2.1 = 0 := by
            rw [← hRR]
            exact fun z => c68 (by show up2 (RS T n _) 1 1 (nI 0) 1 2 = 0; rw [show (nI 0) = nI 0 from rfl, RS_u1, RS_2]; exact congrArg nI z)
          refine j_iconst hE (nI 0) dX8_read_75 kiconst_0 ?_
          exact j_zret hE hR dX8_read_76 (by first
              | (rw [if_pos c68]; first | done | rfl)
              | (rw [if_neg c68]; first | done | rfl)) (by rw [← hRR]; exact RS_u1) nar_c
        · skip
          have c68 : (rdR S pp n q).2.1 = 0 := by
            rw [← hRR]
            have c := c68
            rw [RS_u1, RS_2] at c
            refine (nI_z ?_).mp c
            first | exact Nat.le_trans hq.1 (by decide)
          refine j_iconst hE (nI 1) dX8_read_71 kiconst_1 ?_
          refine j_goto hE 76 dX8_read_72 (by decide) ?_
          exact j_zret hE hR dX8_read_76 (by first
              | (rw [if_pos c68]; first | done | rfl)
              | (rw [if_neg c68]; first | done | rfl)) (by rw [← hRR]; exact RS_u1) nar_c
      · skip
        have c30 : i < 240 := Nat.lt_of_not_le (fun z => c30 (nI_le z (by omega)))
        refine j_aload0 hE dX8_read_33 ?_
        refine j_geti hE fX8_30 dX8_read_34 (by first | assumption | rfl) ?_
        refine j_ifne hE 59 dX8_read_37 (by decide) (fun c37 => ?_) (fun c37 => ?_)
        · skip
          rw [RS_2] at c37
          have c37 : ¬ q0.1 = 0 := fun z => c37 ((nI_z (Nat.le_trans hq.1 (by decide))).mpr z)
          have hRR : (T, q0) = rdR S pp n q := by rw [← hR2, show 240 - i = 240 - (i + 1) + 1 by omega, rdG, if_neg c37]
          refine j_aload0 hE dX8_read_59 ?_
          refine j_iconst hE (nI 0) dX8_read_60 kiconst_0 ?_
          refine j_puti hE pX8_19 dX8_read_61 (by first | assumption | rfl) rfl rfl ?_
          refine j_aload0 hE dX8_read_64 ?_
          refine j_geti hE fX8_30 dX8_read_65 (by first | assumption | rfl) ?_
          refine j_ifne hE 75 dX8_read_68 (by decide) (fun c68 => ?_) (fun c68 => ?_)
          · skip
            have c68 : ¬ (rdR S pp n q).2.1 = 0 := by
              rw [← hRR]
              exact fun z => c68 (by show up2 (RS T n _) 1 1 (nI 0) 1 2 = 0; rw [show (nI 0) = nI 0 from rfl, RS_u1, RS_2]; exact congrArg nI z)
            refine j_iconst hE (nI 0) dX8_read_75 kiconst_0 ?_
            exact j_zret hE hR dX8_read_76 (by first
                | (rw [if_pos c68]; first | done | rfl)
                | (rw [if_neg c68]; first | done | rfl)) (by rw [← hRR]; exact RS_u1) nar_c
          · skip
            have c68 : (rdR S pp n q).2.1 = 0 := by
              rw [← hRR]
              have c := c68
              rw [RS_u1, RS_2] at c
              refine (nI_z ?_).mp c
              first | exact Nat.le_trans hq.1 (by decide)
            refine j_iconst hE (nI 1) dX8_read_71 kiconst_1 ?_
            refine j_goto hE 76 dX8_read_72 (by decide) ?_
            exact j_zret hE hR dX8_read_76 (by first
                | (rw [if_pos c68]; first | done | rfl)
                | (rw [if_neg c68]; first | done | rfl)) (by rw [← hRR]; exact RS_u1) nar_c
        · skip
          rw [RS_2] at c37
          have c37 : q0.1 = 0 := (nI_z (Nat.le_trans hq.1 (by decide))).mp c37
          refine j_aload0 hE dX8_read_40 ?_
          refine j_V0i hE mX8_42 (c_X8_peek l C hC T n hn q0 hq) dX8_read_41 (by first | assumption | rfl) (by decide) (Nat.le_of_ble_eq_true rfl) ?_
          refine j_iconst hE (-1) dX8_read_44 kiconst_m1 ?_
          refine j_icmpeq hE 59 dX8_read_45 (by decide) (fun c45 => ?_) (fun c45 => ?_)
          · skip
            have hRR : (T, qSkip (T 2) n q0) = rdR S pp n q := by rw [← hR2, show 240 - i = 240 - (i + 1) + 1 by omega, rdG, if_pos c37, if_pos c45]
            refine j_aload0 hE dX8_read_59 ?_
            refine j_iconst hE (nI 0) dX8_read_60 kiconst_0 ?_
            refine j_puti hE pX8_19 dX8_read_61 (by first | assumption | rfl) rfl rfl ?_
            refine j_aload0 hE dX8_read_64 ?_
            refine j_geti hE fX8_30 dX8_read_65 (by first | assumption | rfl) ?_
            refine j_ifne hE 75 dX8_read_68 (by decide) (fun c68 => ?_) (fun c68 => ?_)
            · skip
              have c68 : ¬ (rdR S pp n q).2.1 = 0 := by
                rw [← hRR]
                exact fun z => c68 (by show up2 (RS T n _) 1 1 (nI 0) 1 2 = 0; rw [show (nI 0) = nI 0 from rfl, RS_u1, RS_2]; exact congrArg nI z)
              refine j_iconst hE (nI 0) dX8_read_75 kiconst_0 ?_
              exact j_zret hE hR dX8_read_76 (by first
                  | (rw [if_pos c68]; first | done | rfl)
                  | (rw [if_neg c68]; first | done | rfl)) (by rw [← hRR]; exact RS_u1) nar_c
            · skip
              have c68 : (rdR S pp n q).2.1 = 0 := by
                rw [← hRR]
                have c := c68
                rw [RS_u1, RS_2] at c
                refine (nI_z ?_).mp c
                first | exact Nat.le_trans hq.1 (by decide)
              refine j_iconst hE (nI 1) dX8_read_71 kiconst_1 ?_
              refine j_goto hE 76 dX8_read_72 (by decide) ?_
              exact j_zret hE hR dX8_read_76 (by first
                  | (rw [if_pos c68]; first | done | rfl)
                  | (rw [if_neg c68]; first | done | rfl)) (by rw [← hRR]; exact RS_u1) nar_c
          · skip
            refine j_aload0 hE dX8_read_48 ?_
            refine j_aload1 hE dX8_read_49 ?_
            refine j_V1v hE mX8_46 (c_X8_readClause l C hC T pp h0 h1 h2 h3 h4 n hn _ (qB_skip hq) (ncN T pp) hnc6.2 hnc6.1) dX8_read_50 (by first | assumption | rfl) (by decide) (Nat.le_of_ble_eq_true rfl) ?_
            refine j_iinc2 hE (nI (i + 1)) dX8_read_53 (nI_inc _) rfl ?_
            refine j_goto hE 26 dX8_read_56 (by decide) ?_
            exact ih (i + 1) _ _ (by omega) (by omega) (cl_b (qB_skip hq)) (cl_n hnc6) (by rw [← hR2, show 240 - i = 240 - (i + 1) + 1 by omega, rdG, if_pos c37, if_neg c45])
  exact L26 241 0 _ _ (by omega) (by omega) ⟨by decide, Nat.zero_le _, hb.2.2⟩ (clr_n pp) rfl

set_option maxHeartbeats 4000000 in
set_option maxRecDepth 100000 in
theorem c_X10_feed (l : Launch) (C : JC) (hC : JInj C) (S : Sto) (n : Nat) (hn : n ≤ 240) (q : Qr) (x : Int32) : Con l C yX10_feed cX10_feed 2 (some .int) 4 [.ref (C.2.1 0), .int x] (RS S n q) (some (.int (if outP x (nI 0) (nI 255) then -1000000002 else if n < 240 then nI (n + 1) else -1000000004))) (if outP x (nI 0) (nI 255) then RS S n q else if n < 240 then RS (up2 S 2 n x) (n + 1) q else RS S n q) := by
  refine con_of RX10 0 [some (.ref (C.2.1 0)), some (.int x)] (by decide) rfl hC (Nat.le_of_ble_eq_true rfl) rfl (Nat.le_of_ble_eq_true rfl) (fun E hE hR => ?_)
  refine j_iload1 hE dX10_feed_0 ?_
  refine j_iconst hE (nI 0) dX10_feed_1 kiconst_0 ?_
  refine j_sipush hE (nI 255) dX10_feed_2 ksipush_255 ?_
  refine j_S3i hE mX10_75 (c_X10_outside l C hC _ _ _ _) dX10_feed_5 (by decide) (Nat.le_of_ble_eq_true rfl) ?_
  first | refine j_ifeqP hE 16 dX10_feed_8 (by decide) (fun c8 => ?_) (fun c8 => ?_) | refine j_ifeq hE 16 dX10_feed_8 (by decide) (fun c8 => ?_) (fun c8 => ?_)
  · skip
    refine j_aload0 hE dX10_feed_16 ?_
    refine j_getr hE fX10_10 dX10_feed_17 (j := 1) (by first | assumption | rfl) (rfl) ?_
    refine j_iload1 hE dX10_feed_20 ?_
    refine j_V1i hE mX10_80 (c_X8_add l C hC S n hn q x) dX10_feed_21 (by first | assumption | rfl) (by decide) (Nat.le_of_ble_eq_true rfl) ?_
    exact j_iret hE hR dX10_feed_24 (by first
        | (exact (if_pos c8).symm)
        | (exact (if_neg c8).symm)) (by first
        | (exact (if_pos c8).symm)
        | (exact (if_neg c8).symm))
  · skip
    refine j_ldc hE dX10_feed_11 kX10_79 ?_
    refine j_goto hE 24 dX10_feed_13 (by decide) ?_
    exact j_iret hE hR dX10_feed_24 (by first
        | (exact (if_pos c8).symm)
        | (exact (if_neg c8).symm)) (by first
        | (exact (if_pos c8).symm)
        | (exact (if_neg c8).symm))

