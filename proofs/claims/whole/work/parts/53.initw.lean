/-- a nest mate's constructor, by the constant idx of class own; and the law's own links -/
def CIN (own : String) (idx : Nat) (y : MethodName) (bytes : ByteArray) (nL : Nat) : Prop := CB y bytes nL none 0 ∧ (own, idx, y, "DampLikeness") ∈ nestL ∧ Cond.instanceMethod y ∈ WT ∧ y.name = "<init>"
def CIL (own : String) (idx : Nat) (y : MethodName) (bytes : ByteArray) (nL : Nat) : Prop := CB y bytes nL none 0 ∧ Cond.methodLink own idx y ∈ WT ∧ Cond.instanceMethod y ∈ WT ∧ y.name = "<init>"
theorem GP_blind (C : JC) (b : Nat) (e0 : va_E) (av : List Value) : FrameBlind (va_Pc av (GP C b e0)) := fun a U g mk q => by
  obtain ⟨q0, qz, qP, qK, qN, qO⟩ := q
  exact ⟨q0, qz, qP, va_K.moved (u := U) (U := U.calling g mk a) (Vm.Alike.refl U.vm) qK, fun w hw => va_Nw.same (u := U) (U := U.calling g mk a) rfl rfl (qN w hw), va_AO.moved (u := U) (U := U.calling g mk a) (Vm.Alike.refl U.vm) qO.1, va_AO.moved (u := U) (U := U.calling g mk a) (Vm.Alike.refl U.vm) qO.2⟩
theorem Gcap.le {E : JE} {a b a' b' : Nat} (h : Gcap E a b) (h1 : a' ≤ a) (h2 : b' ≤ b) : Gcap E a' b' := by
  obtain ⟨p, l0, e, R, s, m, args, below, meth, c, A, cells, slots, nL, Q⟩ := E
  exact ⟨Nat.le_trans h1 h.1, Nat.le_trans h2 h.2⟩
section GCalls
variable {l : Launch} {C : JC} {E : JE} {own : String} {cc : ByteArray} {d b k cl sl : Nat} {V : Nat → va_E} {pc : Nat} {lv : List (Option Value)} {rest : List Value}
theorem g_V (V' : Nat → va_E) (h : ∀ j, j < k → V (b + j) = V' (b + j)) (kk : G C E V' b k cl sl pc lv rest) : G C E V b k cl sl pc lv rest := by
  obtain ⟨p, l0, e, R, s, m, args, below, meth, c, A, cells, slots, nL, Q⟩ := E
  intro H locs ls hz hP hS hv
  exact kk H locs ls hz (by rw [← gw_c h]; exact hP) hS hv
/-- contents that spell the same cell -/
theorem g_conv {j : Nat} (x : va_E) (hj : j < k) (h : ∀ H, va_at C.1 jcls (C.2.1 (b + j), V (b + j)) H → va_at C.1 jcls (C.2.1 (b + j), x) H) (kk : G C E (vset V (b + j) x) b k cl sl pc lv rest) : G C E V b k cl sl pc lv rest := by
  obtain ⟨p, l0, e, R, s, m, args, below, meth, c, A, cells, slots, nL, Q⟩ := E
  intro H locs ls hz hP hS hv
  refine kk H locs ls hz (fun i q hq => ?_) hS hv
  have hi := gw_lt hq
  rw [gw_at C _ hi] at hq
  cases hq
  have hp := hP i _ (gw_at C V hi)
  by_cases e : i = j
  · subst e
    rw [vset_s]
    exact h H hp
  · rw [vset_n (by omega)]
    exact hp
theorem g_iinc (hE : Gok l C E own cc b d) {i : Nat} {n : Int} {x : Int32} (v : Int32) (hd : decode cc pc = .ok (.iinc i n, 3)) (hl : lv[i]? = some (some (.int x))) (hv : x + Int32.ofInt n = v) (ho : ok1 lv i = true) (kk : G C E V b k cl sl (pc + 3) (lv.set i (some (.int v))) rest) : G C E V b k cl sl pc lv rest := by
  obtain ⟨p, l0, e, R, s, m, args, below, meth, c, A, cells, slots, nL, Q⟩ := E
  obtain ⟨⟨rfl, hx, hb, hml, hown⟩, hts, hK, hN, hO, hC, hA, hs, hR, hm⟩ := hE
  intro H locs ls hz hP hS hvv
  obtain ⟨q, hq⟩ := List.getElem?_of_mem (lvH_in hl)
  have hi : i < lv.length := (List.getElem?_eq_some_iff.mp hl).1
  exact lv_iinc hx hb hd (lvH_has hvv) (k := q) hq hv (Nat.lt_of_lt_of_le hi hvv.2.2.1) rfl (fun ls' hl' => kk H locs ls' hz hP hS (lvH_set hvv hi ho hl'))
theorem g_after {p : Program} {l0 : Launch} {e : Env} {R : Room} {s : State} {m : MethodId} {args : Array Value} {below : List Frame} {meth : Method} {c : Code} {A : Nat → Prop} {Q : State → Prop} {H : Heap} {locs : List Loc} {ls : Array Slot} {st0 : List Value} {mc ms kc : Nat} {F : Nat → va_E} {a : Array Value} (hC : CAd C) (hA : A = GA C b) (hz : H.size = C.2.1 (b + (k + 1))) (hP : va_P C.1 jcls (gw C V b (k + 1)) H) (hS : va_S A s.heap H locs)
    (hr : va_Run p l0 e R s m args below meth c H locs cl sl mc ms (F0 m pc ls st0) rest (GQ C (b + k) kc F a) (GA C (b + k)))
    (kk : ∀ (H1 : Heap) (locs1 : List Loc), H1.size = C.2.1 (b + (k + kc)) → va_P C.1 jcls (gw C (fun i => if i < b + k then V i else F i) b (k + kc)) H1 → va_S A s.heap H1 locs1 → W p l0 e R s m args below meth c H1 locs1 (cl + mc) (sl + ms) Q (F0 m (pc + 3) ls rest)) : W p l0 e R s m args below meth c H locs cl sl Q (F0 m pc ls st0) := by
  have hAA : ∀ q, GA C (b + k) q → A q := fun q h => by
    rw [hA]
    show C.2.1 b ≤ q
    have : C.2.1 (b + k) ≤ q := h
    rw [hC (b + k)] at this
    rw [hC b]
    omega
  refine va_callv hr hS (fun q _ h => hAA q h) hAA (fun u t H1 locs1 ht hvm _ hB hzz hk hS1 => ?_)
  obtain ⟨hz1, hP1⟩ := hB
  rw [ht] at hz1 hP1
  refine kk H1 locs1 (by rw [hz1, show b + k + kc = b + (k + kc) by omega]) (fun i q hq => ?_) hS1
  have hi := gw_lt hq
  rw [gw_at C _ hi] at hq
  cases hq
  by_cases e : i < k
  · have h1 := hP i _ (gw_at C V (show i < k + 1 by omega))
    have e1 : (if b + i < b + k then V (b + i) else F (b + i)) = V (b + i) := if_pos (by omega)
    rw [e1]
    refine h1.kept (hk _ h1.lt (fun z => ?_))
    have : C.2.1 (b + k) ≤ C.2.1 (b + i) := z
    rw [hC (b + k), hC (b + i)] at this
    omega
  · have h1 := hP1 (i - k) _ (gw_at C F (show i - k < kc by omega))
    have e1 : (if b + i < b + k then V (b + i) else F (b + i)) = F (b + i) := if_neg (by omega)
    rw [e1]
    rw [show b + k + (i - k) = b + i by omega] at h1
    exact h1
theorem g_pre {s : State} {H : Heap} {e0 : va_E} (hK : va_K C.1 jcls (jty C) s) (hN : JN s) (hO : JAO s) (hz : H.size = C.2.1 (b + (k + 1))) (hP : va_P C.1 jcls (gw C V b (k + 1)) H) (hv' : V (b + k) = e0) : ∀ U : State, U.heap = H → s.WarmedH U.vm → va_Pc [.ref (C.2.1 (b + k))] (GP C (b + k) e0) [Value.ref (C.2.1 (b + k))].toArray U := fun U hU hW => ⟨rfl, by rw [hU]; exact hz, by
    rw [hU]
    intro i q hq
    have hi : i < 1 := (List.getElem?_eq_some_iff.mp hq).1
    rw [show i = 0 by omega] at hq
    cases hq
    have := hP k _ (gw_at C V (show k < k + 1 by omega))
    rw [hv'] at this
    exact this, va_K.moved hW.alike hK, JN.warm hW hN, va_AO.moved hW.alike hO.1, va_AO.moved hW.alike hO.2⟩
theorem g_call (hE : Gok l C E own cc b d) {y : MethodName} {bytes : ByteArray} {nL' d' mc ms idx kc : Nat} {e0 : va_E} {F : Nat → va_E} (hc : CIN own idx y bytes nL') (hM : GCon l C y bytes nL' d' mc ms (b + k) kc e0 F) (hd : decode cc pc = .ok (.invokespecial idx, 3)) (hd' : d' + 1 ≤ d) (hv' : V (b + k) = e0) (hr : (rest.map fun v => v.category).sum ≤ 8) (hcap : Gcap E (cl + mc) (sl + ms)) (kk : G C E (fun i => if i < b + k then V i else F i) b (k + kc) (cl + mc) (sl + ms) (pc + 3) lv rest) : G C E V b (k + 1) cl sl pc lv (.ref (C.2.1 (b + k)) :: rest) := by
  obtain ⟨p, l0, e, R, s, m, args, below, meth, c, A, cells, slots, nL, Q⟩ := E
  obtain ⟨⟨rfl, hx, hb, hml, hown⟩, hts, hK, hN, hO, hC, hA, hs, ⟨hR1, hR2, hR3, hR4⟩, hm⟩ := hE
  obtain ⟨⟨c1, c2, c3, c4⟩, c5, c6, c7⟩ := hc
  obtain ⟨q1, q2⟩ := hcap
  intro H locs ls hz hP hS hv
  exact g_after (F := F) hC hA hz hP hS (va_runIN (As := []) (rest := rest) (Ts := WT) ⟨hx, hb, rfl, hown, hts⟩ hM ⟨va_cnB 0 hts (wt_self c1) rfl rfl rfl (hN _ c5) (hts _ c2) c3 ⟨Nat.le_trans hd' hR1, Nat.le_trans (by show 8 + (nL' + 11) + 128 * d' ≤ 128 * d; omega) hR2⟩, c7, hts _ c6⟩ ⟨GP_blind C (b + k) e0 _, g_pre hK hN hO hz hP hv'⟩ rfl rfl (hv.1.trans hml.symm) rfl (lv_room hr) hd ⟨Nat.le_trans q1 hR3, Nat.le_trans q2 hR4⟩) (fun H1 locs1 hz1 hP1 hS1 => kk H1 locs1 ls hz1 hP1 hS1 hv)
theorem g_callL (hE : Gok l C E own cc b d) {y : MethodName} {bytes : ByteArray} {nL' d' mc ms idx kc : Nat} {e0 : va_E} {F : Nat → va_E} (hc : CIL own idx y bytes nL') (hM : GCon l C y bytes nL' d' mc ms (b + k) kc e0 F) (hd : decode cc pc = .ok (.invokespecial idx, 3)) (hd' : d' + 1 ≤ d) (hv' : V (b + k) = e0) (hr : (rest.map fun v => v.category).sum ≤ 8) (hcap : Gcap E (cl + mc) (sl + ms)) (kk : G C E (fun i => if i < b + k then V i else F i) b (k + kc) (cl + mc) (sl + ms) (pc + 3) lv rest) : G C E V b (k + 1) cl sl pc lv (.ref (C.2.1 (b + k)) :: rest) := by
  obtain ⟨p, l0, e, R, s, m, args, below, meth, c, A, cells, slots, nL, Q⟩ := E
  obtain ⟨⟨rfl, hx, hb, hml, hown⟩, hts, hK, hN, hO, hC, hA, hs, ⟨hR1, hR2, hR3, hR4⟩, hm⟩ := hE
  obtain ⟨⟨c1, c2, c3, c4⟩, c5, c6, c7⟩ := hc
  obtain ⟨q1, q2⟩ := hcap
  intro H locs ls hz hP hS hv
  exact g_after (F := F) hC hA hz hP hS (va_runI (As := []) (rest := rest) (Ts := WT) ⟨hx, hb, rfl, hown, hts⟩ hM ⟨callB_of 0 hts (wt_self c1) rfl rfl rfl (hts _ c2) (hts _ c5) c3 ⟨Nat.le_trans hd' hR1, Nat.le_trans (by show 8 + (nL' + 11) + 128 * d' ≤ 128 * d; omega) hR2⟩, c7, hts _ c6⟩ ⟨GP_blind C (b + k) e0 _, g_pre hK hN hO hz hP hv'⟩ rfl rfl (hv.1.trans hml.symm) rfl (lv_room hr) hd ⟨Nat.le_trans q1 hR3, Nat.le_trans q2 hR4⟩) (fun H1 locs1 hz1 hP1 hS1 => kk H1 locs1 ls hz1 hP1 hS1 hv)
end GCalls
/-! the first store -/
def S0 : Sto := fun i f => if i = 0 ∧ f = 8 then nI 96 else if i = 0 ∧ f = 9 then nI 101 else if i = 1 ∧ f = 3 then -1 else if i = 114 ∧ f = 14 then -1 else nI 0
theorem S0_z {i : Nat} (h0 : i ≠ 0) (h1 : i ≠ 1) (h2 : i ≠ 114) (f : Nat) : S0 i f = nI 0 := by
  unfold S0
  rw [if_neg (fun q => h0 q.1), if_neg (fun q => h0 q.1), if_neg (fun q => h1 q.1), if_neg (fun q => h2 q.1)]
theorem fin_a {C : JC} {i n : Nat} (h : jsh i = (1, n)) (h0 : i ≠ 0) (h1 : i ≠ 1) (h2 : i ≠ 114) : (.inl (C.2.2.1, n, .inl (fun _ => nI 0)) : va_E) = jcell C S0 i := by
  rw [jcell_1 C S0 h]
  congr 4
  funext f
  exact (S0_z h0 h1 h2 f).symm
theorem jfr {C : JC} {i ci f : Nat} (h : jsh i = (0, ci)) (hc : ci ≠ 9 ∧ ci ≠ 8 ∧ ci ≠ 10) (hr : isR ci f = true) : jfv C S0 ci i f = .ref (C.2.1 (i + 1 + f)) := by
  unfold jfv
  rw [if_pos hr, rf_o h hc]
theorem jfi {C : JC} {i ci f : Nat} (h0 : i ≠ 0) (h1 : i ≠ 1) (h2 : i ≠ 114) (hr : isR ci f = false) : jfv C S0 ci i f = .int (nI 0) := by
  unfold jfv
  rw [if_neg (by rw [hr]; decide), S0_z h0 h1 h2]
theorem arr_conv {C : JC} {a N : Nat} {cA : ClassId} {f g : Nat → Option Nat} (h : ∀ j, j < N → f j = g j) : ∀ H, va_at C.1 jcls (a, .inl (cA, N, .inr (.inr (.inr (.inr f))))) H → va_at C.1 jcls (a, .inl (cA, N, .inr (.inr (.inr (.inr g))))) H := fun H q => by
  have e : vp_cell cA (N, .inr (.inr (.inr (.inr f)))) = vp_cell cA (N, .inr (.inr (.inr (.inr g)))) := by
    rw [vp_cell_q, vp_cell_q]
    unfold arrV
    congr 2
    funext j
    show va_rf (f j.val) = va_rf (g j.val)
    rw [h j.val j.isLt]
  show H[a]? = some (vp_cell cA (N, .inr (.inr (.inr (.inr g)))))
  rw [← e]
  exact q
set_option maxRecDepth 20000 in
theorem wInt : Cond.arrayClass .int ∈ WT := wt_mem 113 (by decide +kernel) rfl
set_option maxRecDepth 20000 in
theorem wBool : Cond.arrayClass .boolean ∈ WT := wt_mem 966 (by decide +kernel) rfl
set_option maxRecDepth 20000 in
theorem wOI : Cond.instanceMethod objectInit ∈ WT := wt_mem 80 (by decide +kernel) rfl
set_option maxRecDepth 20000 in
theorem wOC : Cond.code objectInit ⟨#[0xb1]⟩ 1 none ∈ WT := wt_mem 81 (by decide +kernel) rfl
set_option maxRecDepth 20000 in
theorem oX10_1 : Cond.methodLink RX10 1 objectInit ∈ WT := wt_mem 79 (by decide +kernel) rfl
set_option maxRecDepth 20000 in
theorem oX8_3 : Cond.methodLink RX8 3 objectInit ∈ WT := wt_mem 87 (by decide +kernel) rfl
set_option maxRecDepth 20000 in
theorem oX1_3 : Cond.methodLink RX1 3 objectInit ∈ WT := wt_mem 119 (by decide +kernel) rfl
set_option maxRecDepth 20000 in
theorem oX3_3 : Cond.methodLink RX3 3 objectInit ∈ WT := wt_mem 160 (by decide +kernel) rfl
set_option maxRecDepth 20000 in
theorem oX9_3 : Cond.methodLink RX9 3 objectInit ∈ WT := wt_mem 173 (by decide +kernel) rfl
set_option maxRecDepth 20000 in
theorem oX6_3 : Cond.methodLink RX6 3 objectInit ∈ WT := wt_mem 211 (by decide +kernel) rfl
set_option maxRecDepth 20000 in
theorem oX0_3 : Cond.methodLink RX0 3 objectInit ∈ WT := wt_mem 230 (by decide +kernel) rfl
set_option maxRecDepth 20000 in
theorem oX2_1 : Cond.methodLink RX2 1 objectInit ∈ WT := wt_mem 247 (by decide +kernel) rfl
set_option maxRecDepth 20000 in
theorem oX7_3 : Cond.methodLink RX7 3 objectInit ∈ WT := wt_mem 260 (by decide +kernel) rfl
set_option maxRecDepth 20000 in
theorem oX4_1 : Cond.methodLink RX4 1 objectInit ∈ WT := wt_mem 329 (by decide +kernel) rfl
set_option maxRecDepth 20000 in
theorem oX11_1 : Cond.methodLink RX11 1 objectInit ∈ WT := wt_mem 844 (by decide +kernel) rfl
set_option maxRecDepth 20000 in
theorem qL_7 : Cond.classLink "DampLikenessLaw" 7 RX10 ∈ WT := wt_mem 74 (by decide +kernel) rfl
set_option maxRecDepth 20000 in
theorem nL_7 : GN "DampLikenessLaw" 7 9 := ⟨by decide, qL_7, wt_mem 75 (by decide +kernel) rfl, wt_mem 59 (by decide +kernel) rfl⟩
set_option maxRecDepth 20000 in
theorem qX10_7 : Cond.classLink RX10 7 RX8 ∈ WT := wt_mem 82 (by decide +kernel) rfl
set_option maxRecDepth 20000 in
theorem nX10_7 : GN RX10 7 7 := ⟨by decide, qX10_7, wt_mem 83 (by decide +kernel) rfl, wt_mem 60 (by decide +kernel) rfl⟩
set_option maxRecDepth 20000 in
theorem qX10_16 : Cond.classLink RX10 16 RX1 ∈ WT := wt_mem 114 (by decide +kernel) rfl
set_option maxRecDepth 20000 in
theorem nX10_16 : GN RX10 16 1 := ⟨by decide, qX10_16, wt_mem 115 (by decide +kernel) rfl, wt_mem 61 (by decide +kernel) rfl⟩
set_option maxRecDepth 20000 in
theorem qX10_23 : Cond.classLink RX10 23 RX3 ∈ WT := wt_mem 155 (by decide +kernel) rfl
set_option maxRecDepth 20000 in
theorem nX10_23 : GN RX10 23 3 := ⟨by decide, qX10_23, wt_mem 156 (by decide +kernel) rfl, wt_mem 62 (by decide +kernel) rfl⟩
set_option maxRecDepth 20000 in
theorem qX10_30 : Cond.classLink RX10 30 RX9 ∈ WT := wt_mem 168 (by decide +kernel) rfl
set_option maxRecDepth 20000 in
theorem nX10_30 : GN RX10 30 8 := ⟨by decide, qX10_30, wt_mem 169 (by decide +kernel) rfl, wt_mem 63 (by decide +kernel) rfl⟩
set_option maxRecDepth 20000 in
theorem qX9_9 : Cond.classLink RX9 9 RX3 ∈ WT := wt_mem 174 (by decide +kernel) rfl
set_option maxRecDepth 20000 in
theorem nX9_9 : GN RX9 9 3 := ⟨by decide, qX9_9, wt_mem 156 (by decide +kernel) rfl, wt_mem 62 (by decide +kernel) rfl⟩
set_option maxRecDepth 20000 in
theorem qX9_18 : Cond.classLink RX9 18 RX1 ∈ WT := wt_mem 176 (by decide +kernel) rfl
set_option maxRecDepth 20000 in
theorem nX9_18 : GN RX9 18 1 := ⟨by decide, qX9_18, wt_mem 115 (by decide +kernel) rfl, wt_mem 61 (by decide +kernel) rfl⟩
set_option maxRecDepth 20000 in
theorem qX10_37 : Cond.classLink RX10 37 RX6 ∈ WT := wt_mem 206 (by decide +kernel) rfl
set_option maxRecDepth 20000 in
theorem nX10_37 : GN RX10 37 5 := ⟨by decide, qX10_37, wt_mem 207 (by decide +kernel) rfl, wt_mem 64 (by decide +kernel) rfl⟩
set_option maxRecDepth 20000 in
theorem qX6_9 : Cond.classLink RX6 9 RX1 ∈ WT := wt_mem 212 (by decide +kernel) rfl
set_option maxRecDepth 20000 in
theorem nX6_9 : GN RX6 9 1 := ⟨by decide, qX6_9, wt_mem 115 (by decide +kernel) rfl, wt_mem 61 (by decide +kernel) rfl⟩
set_option maxRecDepth 20000 in
theorem qX10_44 : Cond.classLink RX10 44 RX0 ∈ WT := wt_mem 225 (by decide +kernel) rfl
set_option maxRecDepth 20000 in
theorem nX10_44 : GN RX10 44 0 := ⟨by decide, qX10_44, wt_mem 226 (by decide +kernel) rfl, wt_mem 65 (by decide +kernel) rfl⟩
set_option maxRecDepth 20000 in
theorem qX10_51 : Cond.classLink RX10 51 RX2 ∈ WT := wt_mem 242 (by decide +kernel) rfl
set_option maxRecDepth 20000 in
theorem nX10_51 : GN RX10 51 2 := ⟨by decide, qX10_51, wt_mem 243 (by decide +kernel) rfl, wt_mem 66 (by decide +kernel) rfl⟩
set_option maxRecDepth 20000 in
theorem qX10_58 : Cond.classLink RX10 58 RX4 ∈ WT := wt_mem 253 (by decide +kernel) rfl
set_option maxRecDepth 20000 in
theorem nX10_58 : GN RX10 58 4 := ⟨by decide, qX10_58, wt_mem 325 (by decide +kernel) rfl, wt_mem 68 (by decide +kernel) rfl⟩
set_option maxRecDepth 20000 in
theorem qX10_64 : Cond.classLink RX10 64 RX7 ∈ WT := wt_mem 255 (by decide +kernel) rfl
set_option maxRecDepth 20000 in
theorem nX10_64 : GN RX10 64 6 := ⟨by decide, qX10_64, wt_mem 256 (by decide +kernel) rfl, wt_mem 67 (by decide +kernel) rfl⟩
set_option maxRecDepth 20000 in
theorem qX4_7 : Cond.classLink RX4 7 RX1 ∈ WT := wt_mem 330 (by decide +kernel) rfl
set_option maxRecDepth 20000 in
theorem nX4_7 : GN RX4 7 1 := ⟨by decide, qX4_7, wt_mem 115 (by decide +kernel) rfl, wt_mem 61 (by decide +kernel) rfl⟩
set_option maxRecDepth 20000 in
theorem qL_10 : Cond.classLink "DampLikenessLaw" 10 RX11 ∈ WT := wt_mem 839 (by decide +kernel) rfl
set_option maxRecDepth 20000 in
theorem nL_10 : GN "DampLikenessLaw" 10 10 := ⟨by decide, qL_10, wt_mem 840 (by decide +kernel) rfl, wt_mem 69 (by decide +kernel) rfl⟩
set_option maxRecDepth 20000 in
theorem rX0_9 : FR RX0 9 0 0 true := ⟨fX0_9, rfl, ⟨.array (.int), by decide +kernel, fun _ => ⟨rfl, rfl⟩⟩, fun _ => ⟨rfl, by decide⟩⟩
set_option maxRecDepth 20000 in
theorem rX0_15 : FR RX0 15 0 1 true := ⟨fX0_15, rfl, ⟨.array (.int), by decide +kernel, fun _ => ⟨rfl, rfl⟩⟩, fun _ => ⟨rfl, by decide⟩⟩
set_option maxRecDepth 20000 in
theorem rX1_9 : FR RX1 9 1 0 true := ⟨fX1_9, rfl, ⟨.array (.int), by decide +kernel, fun _ => ⟨rfl, rfl⟩⟩, fun _ => ⟨rfl, by decide⟩⟩
set_option maxRecDepth 20000 in
theorem rX1_15 : FR RX1 15 1 1 true := ⟨fX1_15, rfl, ⟨.array (.int), by decide +kernel, fun _ => ⟨rfl, rfl⟩⟩, fun _ => ⟨rfl, by decide⟩⟩
set_option maxRecDepth 20000 in
theorem rX3_9 : FR RX3 9 3 0 true := ⟨fX3_9, rfl, ⟨.array (.int), by decide +kernel, fun _ => ⟨rfl, rfl⟩⟩, fun _ => ⟨rfl, by decide⟩⟩
set_option maxRecDepth 20000 in
theorem rX3_15 : FR RX3 15 3 1 true := ⟨fX3_15, rfl, ⟨.array (.int), by decide +kernel, fun _ => ⟨rfl, rfl⟩⟩, fun _ => ⟨rfl, by decide⟩⟩
set_option maxRecDepth 20000 in
theorem rX4_10 : FR RX4 10 4 0 true := ⟨fX4_10, rfl, ⟨.object "DampLikeness$Damp", by decide +kernel, fun _ => ⟨rfl, rfl⟩⟩, fun _ => ⟨rfl, by decide⟩⟩
set_option maxRecDepth 20000 in
theorem rX6_11 : FR RX6 11 5 0 true := ⟨fX6_11, rfl, ⟨.array (.object "DampLikeness$Damp"), by decide +kernel, fun _ => ⟨rfl, rfl⟩⟩, fun _ => ⟨rfl, by decide⟩⟩
set_option maxRecDepth 20000 in
theorem rX7_9 : FR RX7 9 6 0 true := ⟨fX7_9, rfl, ⟨.array (.int), by decide +kernel, fun _ => ⟨rfl, rfl⟩⟩, fun _ => ⟨rfl, by decide⟩⟩
set_option maxRecDepth 20000 in
theorem rX7_15 : FR RX7 15 6 1 true := ⟨fX7_15, rfl, ⟨.array (.int), by decide +kernel, fun _ => ⟨rfl, rfl⟩⟩, fun _ => ⟨rfl, by decide⟩⟩
set_option maxRecDepth 20000 in
theorem rX7_18 : FR RX7 18 6 2 true := ⟨fX7_18, rfl, ⟨.array (.int), by decide +kernel, fun _ => ⟨rfl, rfl⟩⟩, fun _ => ⟨rfl, by decide⟩⟩
set_option maxRecDepth 20000 in
theorem rX7_21 : FR RX7 21 6 3 true := ⟨fX7_21, rfl, ⟨.array (.int), by decide +kernel, fun _ => ⟨rfl, rfl⟩⟩, fun _ => ⟨rfl, by decide⟩⟩
set_option maxRecDepth 20000 in
theorem rX8_9 : FR RX8 9 7 0 true := ⟨fX8_9, rfl, ⟨.array (.int), by decide +kernel, fun _ => ⟨rfl, rfl⟩⟩, fun _ => ⟨rfl, by decide⟩⟩
set_option maxRecDepth 20000 in
theorem rX9_12 : FR RX9 12 8 0 true := ⟨fX9_12, rfl, ⟨.object "DampLikeness$Flow", by decide +kernel, fun _ => ⟨rfl, rfl⟩⟩, fun _ => ⟨rfl, by decide⟩⟩
set_option maxRecDepth 20000 in
theorem rX9_21 : FR RX9 21 8 1 true := ⟨fX9_21, rfl, ⟨.object "DampLikeness$Damp", by decide +kernel, fun _ => ⟨rfl, rfl⟩⟩, fun _ => ⟨rfl, by decide⟩⟩
set_option maxRecDepth 20000 in
theorem rX9_25 : FR RX9 25 8 2 true := ⟨fX9_25, rfl, ⟨.array (.object "DampLikeness$Damp"), by decide +kernel, fun _ => ⟨rfl, rfl⟩⟩, fun _ => ⟨rfl, by decide⟩⟩
set_option maxRecDepth 20000 in
theorem rX10_10 : FR RX10 10 9 0 true := ⟨fX10_10, rfl, ⟨.object "DampLikeness$Reader", by decide +kernel, fun _ => ⟨rfl, rfl⟩⟩, fun _ => ⟨rfl, by decide⟩⟩
set_option maxRecDepth 20000 in
theorem rX10_19 : FR RX10 19 9 1 true := ⟨fX10_19, rfl, ⟨.object "DampLikeness$Damp", by decide +kernel, fun _ => ⟨rfl, rfl⟩⟩, fun _ => ⟨rfl, by decide⟩⟩
set_option maxRecDepth 20000 in
theorem rX10_26 : FR RX10 26 9 2 true := ⟨fX10_26, rfl, ⟨.object "DampLikeness$Flow", by decide +kernel, fun _ => ⟨rfl, rfl⟩⟩, fun _ => ⟨rfl, by decide⟩⟩
set_option maxRecDepth 20000 in
theorem rX10_33 : FR RX10 33 9 3 true := ⟨fX10_33, rfl, ⟨.object "DampLikeness$Trial", by decide +kernel, fun _ => ⟨rfl, rfl⟩⟩, fun _ => ⟨rfl, by decide⟩⟩
set_option maxRecDepth 20000 in
theorem rX10_40 : FR RX10 40 9 4 true := ⟨fX10_40, rfl, ⟨.object "DampLikeness$Past", by decide +kernel, fun _ => ⟨rfl, rfl⟩⟩, fun _ => ⟨rfl, by decide⟩⟩
set_option maxRecDepth 20000 in
theorem rX10_47 : FR RX10 47 9 5 true := ⟨fX10_47, rfl, ⟨.object "DampLikeness$Book", by decide +kernel, fun _ => ⟨rfl, rfl⟩⟩, fun _ => ⟨rfl, by decide⟩⟩
set_option maxRecDepth 20000 in
theorem rX10_54 : FR RX10 54 9 6 true := ⟨fX10_54, rfl, ⟨.object "DampLikeness$Draws", by decide +kernel, fun _ => ⟨rfl, rfl⟩⟩, fun _ => ⟨rfl, by decide⟩⟩
set_option maxRecDepth 20000 in
theorem rX10_60 : FR RX10 60 9 7 true := ⟨fX10_60, rfl, ⟨.array (.object "DampLikeness$Image"), by decide +kernel, fun _ => ⟨rfl, rfl⟩⟩, fun _ => ⟨rfl, by decide⟩⟩
set_option maxRecDepth 20000 in
theorem rX10_67 : FR RX10 67 9 8 false := ⟨fX10_67, rfl, ⟨.object "DampLikeness$Plan", by decide +kernel, fun _ => ⟨rfl, rfl⟩⟩, fun h => absurd h (by decide)⟩
set_option maxRecDepth 20000 in
theorem rX10_71 : FR RX10 71 9 9 false := ⟨fX10_71, rfl, ⟨.object "DampLikeness$Plan", by decide +kernel, fun _ => ⟨rfl, rfl⟩⟩, fun h => absurd h (by decide)⟩
set_option maxRecDepth 20000 in
theorem rX11_7 : FR RX11 7 10 3 true := ⟨fX11_7, rfl, ⟨.array (.int), by decide +kernel, fun _ => ⟨rfl, rfl⟩⟩, fun _ => ⟨rfl, by decide⟩⟩
set_option maxRecDepth 20000 in
theorem rX11_13 : FR RX11 13 10 5 true := ⟨fX11_13, rfl, ⟨.array (.int), by decide +kernel, fun _ => ⟨rfl, rfl⟩⟩, fun _ => ⟨rfl, by decide⟩⟩
set_option maxRecDepth 20000 in
theorem rX11_16 : FR RX11 16 10 6 true := ⟨fX11_16, rfl, ⟨.array (.int), by decide +kernel, fun _ => ⟨rfl, rfl⟩⟩, fun _ => ⟨rfl, by decide⟩⟩
set_option maxRecDepth 20000 in
theorem rX11_19 : FR RX11 19 10 8 true := ⟨fX11_19, rfl, ⟨.array (.int), by decide +kernel, fun _ => ⟨rfl, rfl⟩⟩, fun _ => ⟨rfl, by decide⟩⟩
set_option maxRecDepth 20000 in
theorem rX11_22 : FR RX11 22 10 10 true := ⟨fX11_22, rfl, ⟨.array (.int), by decide +kernel, fun _ => ⟨rfl, rfl⟩⟩, fun _ => ⟨rfl, by decide⟩⟩
set_option maxRecDepth 20000 in
theorem rX11_25 : FR RX11 25 10 12 true := ⟨fX11_25, rfl, ⟨.array (.int), by decide +kernel, fun _ => ⟨rfl, rfl⟩⟩, fun _ => ⟨rfl, by decide⟩⟩
set_option maxRecDepth 20000 in
theorem rX11_32 : FR RX11 32 10 21 true := ⟨fX11_32, rfl, ⟨.array (.int), by decide +kernel, fun _ => ⟨rfl, rfl⟩⟩, fun _ => ⟨rfl, by decide⟩⟩
set_option maxRecDepth 20000 in
theorem rX11_35 : FR RX11 35 10 23 true := ⟨fX11_35, rfl, ⟨.array (.int), by decide +kernel, fun _ => ⟨rfl, rfl⟩⟩, fun _ => ⟨rfl, by decide⟩⟩
set_option maxRecDepth 20000 in
theorem rX11_38 : FR RX11 38 10 24 true := ⟨fX11_38, rfl, ⟨.array (.int), by decide +kernel, fun _ => ⟨rfl, rfl⟩⟩, fun _ => ⟨rfl, by decide⟩⟩
set_option maxRecDepth 20000 in
theorem rX11_41 : FR RX11 41 10 26 true := ⟨fX11_41, rfl, ⟨.array (.int), by decide +kernel, fun _ => ⟨rfl, rfl⟩⟩, fun _ => ⟨rfl, by decide⟩⟩
set_option maxRecDepth 20000 in
theorem rX11_44 : FR RX11 44 10 29 true := ⟨fX11_44, rfl, ⟨.array (.int), by decide +kernel, fun _ => ⟨rfl, rfl⟩⟩, fun _ => ⟨rfl, by decide⟩⟩
set_option maxRecDepth 20000 in
theorem rX11_47 : FR RX11 47 10 30 true := ⟨fX11_47, rfl, ⟨.array (.int), by decide +kernel, fun _ => ⟨rfl, rfl⟩⟩, fun _ => ⟨rfl, by decide⟩⟩
set_option maxRecDepth 20000 in
theorem rX11_50 : FR RX11 50 10 31 true := ⟨fX11_50, rfl, ⟨.array (.int), by decide +kernel, fun _ => ⟨rfl, rfl⟩⟩, fun _ => ⟨rfl, by decide⟩⟩
set_option maxRecDepth 20000 in
theorem rX11_53 : FR RX11 53 10 33 true := ⟨fX11_53, rfl, ⟨.array (.int), by decide +kernel, fun _ => ⟨rfl, rfl⟩⟩, fun _ => ⟨rfl, by decide⟩⟩
set_option maxRecDepth 20000 in
theorem rX11_56 : FR RX11 56 10 34 true := ⟨fX11_56, rfl, ⟨.array (.int), by decide +kernel, fun _ => ⟨rfl, rfl⟩⟩, fun _ => ⟨rfl, by decide⟩⟩
set_option maxRecDepth 20000 in
theorem rX11_59 : FR RX11 59 10 36 true := ⟨fX11_59, rfl, ⟨.array (.int), by decide +kernel, fun _ => ⟨rfl, rfl⟩⟩, fun _ => ⟨rfl, by decide⟩⟩
set_option maxRecDepth 20000 in
theorem rX11_62 : FR RX11 62 10 37 true := ⟨fX11_62, rfl, ⟨.array (.int), by decide +kernel, fun _ => ⟨rfl, rfl⟩⟩, fun _ => ⟨rfl, by decide⟩⟩
set_option maxRecDepth 20000 in
theorem rX11_65 : FR RX11 65 10 38 true := ⟨fX11_65, rfl, ⟨.array (.int), by decide +kernel, fun _ => ⟨rfl, rfl⟩⟩, fun _ => ⟨rfl, by decide⟩⟩
set_option maxRecDepth 20000 in
theorem rX11_68 : FR RX11 68 10 39 true := ⟨fX11_68, rfl, ⟨.array (.boolean), by decide +kernel, fun _ => ⟨rfl, rfl⟩⟩, fun _ => ⟨rfl, by decide⟩⟩
set_option maxRecDepth 20000 in
theorem cbX0_init : CB yX0_init cX0_init 1 none 0 := ⟨wt_mem 229 (by decide +kernel) rfl, wt_mem 65 (by decide +kernel) rfl, by decide +kernel, by decide⟩
set_option maxRecDepth 20000 in
theorem imX0_init : Cond.instanceMethod yX0_init ∈ WT := wt_mem 228 (by decide +kernel) rfl
set_option maxRecDepth 20000 in
theorem vX10_46 : CIN RX10 46 yX0_init cX0_init 1 := ⟨cbX0_init, by decide +kernel, imX0_init, rfl⟩
set_option maxRecDepth 20000 in
theorem cbX1_init : CB yX1_init cX1_init 1 none 0 := ⟨wt_mem 118 (by decide +kernel) rfl, wt_mem 61 (by decide +kernel) rfl, by decide +kernel, by decide⟩
set_option maxRecDepth 20000 in
theorem imX1_init : Cond.instanceMethod yX1_init ∈ WT := wt_mem 117 (by decide +kernel) rfl
set_option maxRecDepth 20000 in
theorem vX10_18 : CIN RX10 18 yX1_init cX1_init 1 := ⟨cbX1_init, by decide +kernel, imX1_init, rfl⟩
set_option maxRecDepth 20000 in
theorem vX9_20 : CIN RX9 20 yX1_init cX1_init 1 := ⟨cbX1_init, by decide +kernel, imX1_init, rfl⟩
set_option maxRecDepth 20000 in
theorem vX6_17 : CIN RX6 17 yX1_init cX1_init 1 := ⟨cbX1_init, by decide +kernel, imX1_init, rfl⟩
set_option maxRecDepth 20000 in
theorem vX4_9 : CIN RX4 9 yX1_init cX1_init 1 := ⟨cbX1_init, by decide +kernel, imX1_init, rfl⟩
set_option maxRecDepth 20000 in
theorem cbX2_init : CB yX2_init cX2_init 1 none 0 := ⟨wt_mem 246 (by decide +kernel) rfl, wt_mem 66 (by decide +kernel) rfl, by decide +kernel, by decide⟩
set_option maxRecDepth 20000 in
theorem imX2_init : Cond.instanceMethod yX2_init ∈ WT := wt_mem 245 (by decide +kernel) rfl
set_option maxRecDepth 20000 in
theorem vX10_53 : CIN RX10 53 yX2_init cX2_init 1 := ⟨cbX2_init, by decide +kernel, imX2_init, rfl⟩
set_option maxRecDepth 20000 in
theorem cbX3_init : CB yX3_init cX3_init 1 none 0 := ⟨wt_mem 159 (by decide +kernel) rfl, wt_mem 62 (by decide +kernel) rfl, by decide +kernel, by decide⟩
set_option maxRecDepth 20000 in
theorem imX3_init : Cond.instanceMethod yX3_init ∈ WT := wt_mem 158 (by decide +kernel) rfl
set_option maxRecDepth 20000 in
theorem vX10_25 : CIN RX10 25 yX3_init cX3_init 1 := ⟨cbX3_init, by decide +kernel, imX3_init, rfl⟩
set_option maxRecDepth 20000 in
theorem vX9_11 : CIN RX9 11 yX3_init cX3_init 1 := ⟨cbX3_init, by decide +kernel, imX3_init, rfl⟩
set_option maxRecDepth 20000 in
theorem cbX4_init : CB yX4_init cX4_init 1 none 0 := ⟨wt_mem 328 (by decide +kernel) rfl, wt_mem 68 (by decide +kernel) rfl, by decide +kernel, by decide⟩
set_option maxRecDepth 20000 in
theorem imX4_init : Cond.instanceMethod yX4_init ∈ WT := wt_mem 327 (by decide +kernel) rfl
set_option maxRecDepth 20000 in
theorem vX10_74 : CIN RX10 74 yX4_init cX4_init 1 := ⟨cbX4_init, by decide +kernel, imX4_init, rfl⟩
set_option maxRecDepth 20000 in
theorem cbX6_init : CB yX6_init cX6_init 2 none 0 := ⟨wt_mem 210 (by decide +kernel) rfl, wt_mem 64 (by decide +kernel) rfl, by decide +kernel, by decide⟩
set_option maxRecDepth 20000 in
theorem imX6_init : Cond.instanceMethod yX6_init ∈ WT := wt_mem 209 (by decide +kernel) rfl
set_option maxRecDepth 20000 in
theorem vX10_39 : CIL RX10 39 yX6_init cX6_init 2 := ⟨cbX6_init, wt_mem 208 (by decide +kernel) rfl, imX6_init, rfl⟩
set_option maxRecDepth 20000 in
theorem cbX7_init : CB yX7_init cX7_init 1 none 0 := ⟨wt_mem 259 (by decide +kernel) rfl, wt_mem 67 (by decide +kernel) rfl, by decide +kernel, by decide⟩
set_option maxRecDepth 20000 in
theorem imX7_init : Cond.instanceMethod yX7_init ∈ WT := wt_mem 258 (by decide +kernel) rfl
set_option maxRecDepth 20000 in
theorem vX10_66 : CIN RX10 66 yX7_init cX7_init 1 := ⟨cbX7_init, by decide +kernel, imX7_init, rfl⟩
set_option maxRecDepth 20000 in
theorem cbX8_init : CB yX8_init cX8_init 1 none 0 := ⟨wt_mem 86 (by decide +kernel) rfl, wt_mem 60 (by decide +kernel) rfl, by decide +kernel, by decide⟩
set_option maxRecDepth 20000 in
theorem imX8_init : Cond.instanceMethod yX8_init ∈ WT := wt_mem 85 (by decide +kernel) rfl
set_option maxRecDepth 20000 in
theorem vX10_9 : CIN RX10 9 yX8_init cX8_init 1 := ⟨cbX8_init, by decide +kernel, imX8_init, rfl⟩
set_option maxRecDepth 20000 in
theorem cbX9_init : CB yX9_init cX9_init 2 none 0 := ⟨wt_mem 172 (by decide +kernel) rfl, wt_mem 63 (by decide +kernel) rfl, by decide +kernel, by decide⟩
set_option maxRecDepth 20000 in
theorem imX9_init : Cond.instanceMethod yX9_init ∈ WT := wt_mem 171 (by decide +kernel) rfl
set_option maxRecDepth 20000 in
theorem vX10_32 : CIL RX10 32 yX9_init cX9_init 2 := ⟨cbX9_init, wt_mem 170 (by decide +kernel) rfl, imX9_init, rfl⟩
set_option maxRecDepth 20000 in
theorem cbX10_init : CB yX10_init cX10_init 2 none 0 := ⟨wt_mem 78 (by decide +kernel) rfl, wt_mem 59 (by decide +kernel) rfl, by decide +kernel, by decide⟩
set_option maxRecDepth 20000 in
theorem imX10_init : Cond.instanceMethod yX10_init ∈ WT := wt_mem 77 (by decide +kernel) rfl
set_option maxRecDepth 20000 in
theorem vL_9 : CIL "DampLikenessLaw" 9 yX10_init cX10_init 2 := ⟨cbX10_init, wt_mem 76 (by decide +kernel) rfl, imX10_init, rfl⟩
set_option maxRecDepth 20000 in
theorem cbX11_init : CB yX11_init cX11_init 1 none 0 := ⟨wt_mem 843 (by decide +kernel) rfl, wt_mem 69 (by decide +kernel) rfl, by decide +kernel, by decide⟩
set_option maxRecDepth 20000 in
theorem imX11_init : Cond.instanceMethod yX11_init ∈ WT := wt_mem 842 (by decide +kernel) rfl
set_option maxRecDepth 20000 in
theorem vL_12 : CIL "DampLikenessLaw" 12 yX11_init cX11_init 1 := ⟨cbX11_init, wt_mem 841 (by decide +kernel) rfl, imX11_init, rfl⟩
