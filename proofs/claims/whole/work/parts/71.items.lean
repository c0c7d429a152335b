/-! ITEMS, on both sides -/
def frL (r r' : Nat → Int32) : Prop := ∀ i, i < 11 → r' i = r i
theorem frL.trans {r r' r'' : Nat → Int32} (a : frL r r') (b : frL r' r'') : frL r r'' := fun i hi => (b i hi).trans (a i hi)
theorem frR.L {r r' : Nat → Int32} (a : frR r r') : frL r r' := fun i hi => a i (Or.inl hi)
theorem frL_u {r r' : Nat → Int32} (a : frL r r') (x : Int32) : frL r (upd r' 15 x) := fun i hi => (pk_un (by omega)).trans (a i hi)
theorem frL_r (r : Nat → Int32) : frL r r := fun _ _ => rfl
def IT (h n : Nat) (A : Nat → Nat → Int32) (S : Nat → Nat → Int32) (s : Nat → Int32) (a : Nat) (r : Nat → Int32) (F : Nat → Nat → Int32) (om oc : Option rv_X) : Prop :=
  (∃ r' F' k' a' e' q', om = some (some (.int 1), mR A q' r') ∧ oc = some (some (.int 1), cD S s q' F' 34) ∧ TS n A k' a' e' r' F' ∧ Inv h q' ∧ a < a' ∧ frL r r' ∧ frF F F')
  ∨ (∃ r' F' a' p' q', om = some (some (.int 0), mR A p' r') ∧ oc = some (some (.int 0), cD S s q' F' 34) ∧ r' 15 = nI a' ∧ F' 35 3 = nI a' ∧ a ≤ a' ∧ a' ≤ n ∧ frL r r' ∧ frF F F')
theorem IT.weak {h n : Nat} {A : Nat → Nat → Int32} {S : Nat → Nat → Int32} {s : Nat → Int32} {a a1 : Nat} {r r1 : Nat → Int32} {F F1 : Nat → Nat → Int32} {om oc : Option rv_X} (x : IT h n A S s a1 r1 F1 om oc) (ha : a ≤ a1) (fr : frL r r1) (fF : frF F F1) : IT h n A S s a r F om oc := by
  rcases x with ⟨r', F', k', a', e', q', h1, h2, h3, h4, h5, h6, h7⟩ | ⟨r', F', a', p', q', h1, h2, h3, h4, h5, h6, h7, h8⟩
  · exact Or.inl ⟨r', F', k', a', e', q', h1, h2, h3, h4, by omega, fr.trans h6, fF.trans h7⟩
  · exact Or.inr ⟨r', F', a', p', q', h1, h2, h3, h4, by omega, h6, fr.trans h7, fF.trans h8⟩
theorem mn_lt : (-1 : Int32) < 0 := by decide
theorem mn_ge : ¬ (0 : Int32) ≤ -1 := by decide
theorem dt1 (S : Nat → Nat → Int32) (s q : Nat → Int32) (F : Nat → Nat → Int32) (rb : Nat) {k : Nat} (h : k < 10) (x : Int32) : rv_stI (cD S s q F rb) (sa 2 1) (nI k) x = some (cD S s (upd q (4 + k) x) F rb) := ct1 (upA S 0 s) h23 q F rb h x
theorem d_addBather (S : Nat → Nat → Int32) (s q : Nat → Int32) (F : Nat → Nat → Int32) (rb : Nat) {n : Nat} (hn : n < 8) (hs : q 0 = nI n) (k t o u : Int32) : rv_EV 12 [.ref (sp 2), .int k, .int t, .int o, .int u] (cD S s q F rb) = some (some (.int (nI n)), cD S s (newB q n k t o u) F rb) := k_addBather (upA S 0 s) h23 q F rb hn hs k t o u
theorem d_isFull (S : Nat → Nat → Int32) (s q : Nat → Int32) (F : Nat → Nat → Int32) (rb : Nat) : rv_EV 11 [.ref (sp 2)] (cD S s q F rb) = some (some (.int (if q 0 < 8 then 0 else 1)), cD S s q F rb) := k_isFull (upA S 0 s) h23 q F rb
theorem it_fresh {n k a e : Nat} {A : Nat → Nat → Int32} {r0 r : Nat → Int32} {F : Nat → Nat → Int32} {q : Nat → Int32} (Z : TS n A k a e r F) (nx : rv_EV 177 [.ref 0] (mR A q r0) = some (none, mR A q r)) {h : Nat} (I : Inv h q) (S : Nat → Nat → Int32) (s : Nat → Int32) : IT h n A S s a r F (rv_EV 190 [.ref 0] (mR A q r0)) ((rv_ri (rv_EV 46 [.ref 35, .int 99] (cD S s q F 34))).bind fun q7 => (bif rv_cnd .lt q7.1 0 then rv_GO rc_X3_readItem 56 [none, none, none, some (.int q7.1)] [] q7.2 else ((rv_stF q7.2 (sp 2) 1 8 (.int q7.1)).bind fun w8 => rv_GO rc_X3_readItem 56 [none, none, none, some (.int q7.1)] [] w8))) := by
  rcases nm_step Z (m := 99) (M := 99) rfl (by decide) q (fun v => upd q 2 (nI v)) S s q with ⟨v, r', F', k', a', e', hv, e14, is, nt, cn, Z', ha, f1, f2⟩ | ⟨is, cn, e3⟩
  · left
    have w2 : rv_stI (mR A q r) 1 2 (nI v) = some (mR A (upd q 2 (nI v)) r) := stR A q r (j := 2) (by decide) (nI v)
    have ge : ¬ nI v < 0 := nI_pos (by omega)
    refine ⟨r', F', k', a', e', upd q 2 (nI v), ?_, ?_, Z', Inv_2 I (nI_pos' (by omega)), ha, f1.L, f2⟩
    · rw [ev_X5_freshHere _ _ (obR A q r0)]
      simp only [cb_eq, cb_ne, cb_lt, cb_ge, cb_gt, cb_le, cb_q, cb_qL, ri_s2, rl_s, rr_s, rv_s, bd_s, i10, cond_true, cond_false, lgR4, sgR4, lgR7, sgR7, lgR11, sgR11, lgR12, sgR12, lgR13, sgR13, lgR14, sgR14, lgR15, sgR15, lfR_1, lfR_2, lfR_3, lfR_5, lfR_6, lfR_8, lfR_9, lfR_10, nx, is, i10_n, if_false, lfR, e14, w2, nt]
    · simp only [cb_eq, cb_ne, cb_lt, cb_ge, cb_gt, cb_le, cb_q, cb_qL, ri_s2, rl_s, rr_s, rv_s, bd_s, i10, cond_true, cond_false, cn, ge, if_false, dh8, bk_X3_readItem_56]
  · right
    refine ⟨upd r 15 (nI a), F, a, q, q, ?_, ?_, rfl, e3, Nat.le_refl _, ts_an Z, frL_u (frL_r r) _, frF_r F⟩
    · rw [ev_X5_freshHere _ _ (obR A q r0)]
      simp only [cb_eq, cb_ne, cb_lt, cb_ge, cb_gt, cb_le, cb_q, cb_qL, ri_s2, rl_s, rr_s, rv_s, bd_s, i10, cond_true, cond_false, lgR4, sgR4, lgR7, sgR7, lgR11, sgR11, lgR12, sgR12, lgR13, sgR13, lgR14, sgR14, lgR15, sgR15, lfR_1, lfR_2, lfR_3, lfR_5, lfR_6, lfR_8, lfR_9, lfR_10, nx, is, if_true]
    · simp only [cb_eq, cb_ne, cb_lt, cb_ge, cb_gt, cb_le, cb_q, cb_qL, ri_s2, rl_s, rr_s, rv_s, bd_s, i10, cond_true, cond_false, cn, mn_lt, if_true, bk_X3_readItem_56]
theorem it_plug {n k a e : Nat} {A : Nat → Nat → Int32} {r0 r : Nat → Int32} {F : Nat → Nat → Int32} {q : Nat → Int32} (Z : TS n A k a e r F) (nx : rv_EV 177 [.ref 0] (mR A q r0) = some (none, mR A q r)) {h : Nat} (I : Inv h q) (S : Nat → Nat → Int32) (s : Nat → Int32) : IT h n A S s a r F (rv_EV 191 [.ref 0] (mR A q r0)) ((rv_ri (rv_EV 46 [.ref 35, .int 9] (cD S s q F 34))).bind fun q5 => (bif rv_cnd .lt q5.1 0 then rv_GO rc_X3_readItem 91 [none, none, none, some (.int q5.1)] [] q5.2 else ((rv_rv (rv_EV 18 [.ref (sp 2), .int q5.1] q5.2)).bind fun q6 => rv_GO rc_X3_readItem 91 [none, none, none, some (.int q5.1)] [] q6))) := by
  rcases nm_step Z (m := 9) (M := 9) rfl (by decide) q (fun v => pulS q v) S s q with ⟨v, r', F', k', a', e', hv, e14, is, nt, cn, Z', ha, f1, f2⟩ | ⟨is, cn, e3⟩
  · left
    have ge : ¬ nI v < 0 := nI_pos (by omega)
    have hv10 : v < 10 := by omega
    refine ⟨r', F', k', a', e', pulS q v, ?_, ?_, Z', Inv_pul I hv10, ha, f1.L, f2⟩
    · rw [ev_X5_plugHere _ _ (obR A q r0)]
      simp only [cb_eq, cb_ne, cb_lt, cb_ge, cb_gt, cb_le, cb_q, cb_qL, ri_s2, rl_s, rr_s, rv_s, bd_s, i10, cond_true, cond_false, lgR4, sgR4, lgR7, sgR7, lgR11, sgR11, lgR12, sgR12, lgR13, sgR13, lgR14, sgR14, lgR15, sgR15, lfR_1, lfR_2, lfR_3, lfR_5, lfR_6, lfR_8, lfR_9, lfR_10, nx, is, i10_n, if_false, e14, r_pulls A q r hv10, nt]
    · simp only [cb_eq, cb_ne, cb_lt, cb_ge, cb_gt, cb_le, cb_q, cb_qL, ri_s2, rl_s, rr_s, rv_s, bd_s, i10, cond_true, cond_false, cn, ge, if_false, d_pullPlug S s q F' 34 hv10, bk_X3_readItem_91]
  · right
    refine ⟨upd r 15 (nI a), F, a, q, q, ?_, ?_, rfl, e3, Nat.le_refl _, ts_an Z, frL_u (frL_r r) _, frF_r F⟩
    · rw [ev_X5_plugHere _ _ (obR A q r0)]
      simp only [cb_eq, cb_ne, cb_lt, cb_ge, cb_gt, cb_le, cb_q, cb_qL, ri_s2, rl_s, rr_s, rv_s, bd_s, i10, cond_true, cond_false, lgR4, sgR4, lgR7, sgR7, lgR11, sgR11, lgR12, sgR12, lgR13, sgR13, lgR14, sgR14, lgR15, sgR15, lfR_1, lfR_2, lfR_3, lfR_5, lfR_6, lfR_8, lfR_9, lfR_10, nx, is, if_true]
    · simp only [cb_eq, cb_ne, cb_lt, cb_ge, cb_gt, cb_le, cb_q, cb_qL, ri_s2, rl_s, rr_s, rv_s, bd_s, i10, cond_true, cond_false, cn, mn_lt, if_true, bk_X3_readItem_91]
theorem it_tub {n k a e : Nat} {A : Nat → Nat → Int32} {r0 r : Nat → Int32} {F : Nat → Nat → Int32} {q : Nat → Int32} (Z : TS n A k a e r F) (nx : rv_EV 177 [.ref 0] (mR A q r0) = some (none, mR A q r)) {h : Nat} (I : Inv h q) (S : Nat → Nat → Int32) (s : Nat → Int32) : IT h n A S s a r F (rv_EV 189 [.ref 0] (mR A q r0)) (rv_EV 41 [.ref 35, .ref (sp 2)] (cD S s q F 34)) := by
  rcases nm_step Z (m := 9) (M := 9) rfl (by decide) q (fun _ => q) S s q with ⟨t, r2, F2, k2, a2, e2, ht, e14, is1, nt1, cn1, Z2, ha2, f2, g2⟩ | ⟨is1, cn1, e3⟩
  rotate_left
  · right
    refine ⟨upd r 15 (nI a), F, a, q, q, ?_, ?_, rfl, e3, Nat.le_refl _, ts_an Z, frL_u (frL_r r) _, frF_r F⟩
    · rw [ev_X5_tubHere _ _ (obR A q r0)]
      simp only [cb_eq, cb_ne, cb_lt, cb_ge, cb_gt, cb_le, cb_q, cb_qL, ri_s2, rl_s, rr_s, rv_s, bd_s, i10, cond_true, cond_false, lgR4, sgR4, lgR7, sgR7, lgR11, sgR11, lgR12, sgR12, lgR13, sgR13, lgR14, sgR14, lgR15, sgR15, lfR_1, lfR_2, lfR_3, lfR_5, lfR_6, lfR_8, lfR_9, lfR_10, nx, is1, if_true]
    · rw [ev_X3_readTub _ _ _ (obBD S s q F 34)]
      simp only [cb_eq, cb_ne, cb_lt, cb_ge, cb_gt, cb_le, cb_q, cb_qL, ri_s2, rl_s, rr_s, rv_s, bd_s, i10, cond_true, cond_false, cn1, mn_ge, if_false]
  have ht10 : t < 10 := by omega
  have ge1 : 0 ≤ nI t := nI_pos' (by omega)
  rcases nm_step Z2 (m := 99) (M := 99) rfl (by decide) q (fun v => upd q (4 + t) (nI v)) S s q with ⟨w, r3, F3, k3, a3, e3, hw, e14b, is2, nt2, cn2, Z3, ha3, f3, g3⟩ | ⟨is2, cn2, e3⟩
  rotate_left
  · right
    refine ⟨upd r2 15 (nI a2), F2, a2, q, q, ?_, ?_, rfl, e3, by omega, ts_an Z2, frL_u f2.L _, g2⟩
    · rw [ev_X5_tubHere _ _ (obR A q r0)]
      simp only [cb_eq, cb_ne, cb_lt, cb_ge, cb_gt, cb_le, cb_q, cb_qL, ri_s2, rl_s, rr_s, rv_s, bd_s, i10, cond_true, cond_false, lgR4, sgR4, lgR7, sgR7, lgR11, sgR11, lgR12, sgR12, lgR13, sgR13, lgR14, sgR14, lgR15, sgR15, lfR_1, lfR_2, lfR_3, lfR_5, lfR_6, lfR_8, lfR_9, lfR_10, nx, is1, i10_n, if_false, e14, nt1, is2, if_true]
    · rw [ev_X3_readTub _ _ _ (obBD S s q F 34)]
      simp only [cb_eq, cb_ne, cb_lt, cb_ge, cb_gt, cb_le, cb_q, cb_qL, ri_s2, rl_s, rr_s, rv_s, bd_s, i10, cond_true, cond_false, cn1, ge1, if_true, cn2, mn_ge, if_false]
  have ge2 : 0 ≤ nI w := nI_pos' (by omega)
  have st1 := stR A q r2 (show 4 + t < 96 by omega) (nI w)
  have I1 : Inv h (upd q (4 + t) (nI w)) := Inv_w I ht10 ge2
  have f3' : frL r r3 := f2.L.trans f3.L
  have g3' : frF F F3 := g2.trans g3
  have ct : rv_stI (cD S s q F3 34) (sa 2 1) (nI t) (nI w) = some (cD S s (upd q (4 + t) (nI w)) F3 34) := dt1 S s q F3 34 ht10 (nI w)
  generalize upd q (4 + t) (nI w) = q1 at *
  have of1 := r_of Z3 q1
  by_cases w11 : WD A n k3 a3 e3 11
  rotate_left
  · left
    rw [wdI_n w11] at of1
    have cw : rv_EV 45 [.ref 35, .ref 1011] (cD S s q1 F3 34) = some (some (.int 0), cD S s q1 F3 34) := c_word_n Z3 (i := 11) (by decide) w11 S s q1
    refine ⟨r3, F3, k3, a3, e3, q1, ?_, ?_, Z3, I1, by omega, f3', g3'⟩
    · rw [ev_X5_tubHere _ _ (obR A q r0)]
      simp only [cb_eq, cb_ne, cb_lt, cb_ge, cb_gt, cb_le, cb_q, cb_qL, ri_s2, rl_s, rr_s, rv_s, bd_s, i10, cond_true, cond_false, lgR4, sgR4, lgR7, sgR7, lgR11, sgR11, lgR12, sgR12, lgR13, sgR13, lgR14, sgR14, lgR15, sgR15, lfR_1, lfR_2, lfR_3, lfR_5, lfR_6, lfR_8, lfR_9, lfR_10, nx, is1, i10_n, if_false, e14, nt1, is2, lfR, e14b, c4_, st1, nt2, of1, if_true]
    · rw [ev_X3_readTub _ _ _ (obBD S s q F 34)]
      simp only [cb_eq, cb_ne, cb_lt, cb_ge, cb_gt, cb_le, cb_q, cb_qL, ri_s2, rl_s, rr_s, rv_s, bd_s, i10, cond_true, cond_false, cn1, ge1, if_true, cn2, ge2, df1, ct, cw]
  rw [wdI_y w11] at of1
  obtain ⟨r4, F4, k4, a4, e4, nt3, cx3, Z4, ha4, f4, g4⟩ := ts_next Z3 q1 S s q1
  have hw11 := wd_a Z3 w11
  have cw : rv_EV 45 [.ref 35, .ref 1011] (cD S s q1 F3 34) = some (some (.int 1), cD S s q1 F4 34) := c_word_y Z3 (i := 11) (by decide) w11 cx3
  rcases nm_step Z4 (m := 3) (M := 3) rfl (by decide) q1 (fun _ => q1) S s q1 with ⟨c, r5, F5, k5, a5, e5, hc, e14c, is3, nt4, cn3, Z5, ha5, f5, g5⟩ | ⟨is3, cn3, e3⟩
  rotate_left
  · right
    refine ⟨upd r4 15 (nI a4), F4, a4, q1, q1, ?_, ?_, rfl, e3, by omega, ts_an Z4, frL_u (f3'.trans f4.L) _, g3'.trans g4⟩
    · rw [ev_X5_tubHere _ _ (obR A q r0)]
      simp only [cb_eq, cb_ne, cb_lt, cb_ge, cb_gt, cb_le, cb_q, cb_qL, ri_s2, rl_s, rr_s, rv_s, bd_s, i10, cond_true, cond_false, lgR4, sgR4, lgR7, sgR7, lgR11, sgR11, lgR12, sgR12, lgR13, sgR13, lgR14, sgR14, lgR15, sgR15, lfR_1, lfR_2, lfR_3, lfR_5, lfR_6, lfR_8, lfR_9, lfR_10, nx, is1, i10_n, if_false, e14, nt1, is2, lfR, e14b, c4_, st1, nt2, of1, nt3, is3, if_true]
    · rw [ev_X3_readTub _ _ _ (obBD S s q F 34)]
      simp only [cb_eq, cb_ne, cb_lt, cb_ge, cb_gt, cb_le, cb_q, cb_qL, ri_s2, rl_s, rr_s, rv_s, bd_s, i10, cond_true, cond_false, cn1, ge1, if_true, cn2, ge2, df1, ct, cw, i10_n, if_false, cn3, mn_ge]
  have hc4 : c < 4 := by omega
  have ge3 : 0 ≤ nI c := nI_pos' (by omega)
  rcases nm_step Z5 (m := 9999) (M := 9999) rfl (by decide) q1 (fun v => upd q1 (14 + 4 * t + c) (nI v)) S s q1 with ⟨x, r6, F6, k6, a6, e6, hx, e14d, is4, nt5, cn4, Z6, ha6, f6, g6⟩ | ⟨is4, cn4, e3⟩
  rotate_left
  · right
    refine ⟨upd r5 15 (nI a5), F5, a5, q1, q1, ?_, ?_, rfl, e3, by omega, ts_an Z5, frL_u ((f3'.trans f4.L).trans f5.L) _, (g3'.trans g4).trans g5⟩
    · rw [ev_X5_tubHere _ _ (obR A q r0)]
      simp only [cb_eq, cb_ne, cb_lt, cb_ge, cb_gt, cb_le, cb_q, cb_qL, ri_s2, rl_s, rr_s, rv_s, bd_s, i10, cond_true, cond_false, lgR4, sgR4, lgR7, sgR7, lgR11, sgR11, lgR12, sgR12, lgR13, sgR13, lgR14, sgR14, lgR15, sgR15, lfR_1, lfR_2, lfR_3, lfR_5, lfR_6, lfR_8, lfR_9, lfR_10, nx, is1, i10_n, if_false, e14, nt1, is2, lfR, e14b, c4_, st1, nt2, of1, nt3, is3, e14c, nt4, is4, if_true]
    · rw [ev_X3_readTub _ _ _ (obBD S s q F 34)]
      simp only [cb_eq, cb_ne, cb_lt, cb_ge, cb_gt, cb_le, cb_q, cb_qL, ri_s2, rl_s, rr_s, rv_s, bd_s, i10, cond_true, cond_false, cn1, ge1, if_true, cn2, ge2, df1, ct, cw, i10_n, if_false, cn3, ge3, cn4, mn_ge]
  left
  have ge4 : 0 ≤ nI x := nI_pos' (by omega)
  have st2 := stR A q1 r5 (show 14 + 4 * t + c < 96 by omega) (nI x)
  refine ⟨r6, F6, k6, a6, e6, upd q1 (14 + 4 * t + c) (nI x), ?_, ?_, Z6, Inv_c I1 (by omega) _, by omega, ((f3'.trans f4.L).trans f5.L).trans f6.L, ((g3'.trans g4).trans g5).trans g6⟩
  · rw [ev_X5_tubHere _ _ (obR A q r0)]
    simp only [cb_eq, cb_ne, cb_lt, cb_ge, cb_gt, cb_le, cb_q, cb_qL, ri_s2, rl_s, rr_s, rv_s, bd_s, i10, cond_true, cond_false, lgR4, sgR4, lgR7, sgR7, lgR11, sgR11, lgR12, sgR12, lgR13, sgR13, lgR14, sgR14, lgR15, sgR15, lfR_1, lfR_2, lfR_3, lfR_5, lfR_6, lfR_8, lfR_9, lfR_10, nx, is1, i10_n, if_false, e14, nt1, is2, lfR, e14b, c4_, st1, nt2, of1, nt3, is3, e14c, nt4, is4, m_placeOf, e14d, st2, nt5]
  · rw [ev_X3_readTub _ _ _ (obBD S s q F 34)]
    simp only [cb_eq, cb_ne, cb_lt, cb_ge, cb_gt, cb_le, cb_q, cb_qL, ri_s2, rl_s, rr_s, rv_s, bd_s, i10, cond_true, cond_false, cn1, ge1, if_true, cn2, ge2, df1, ct, cw, i10_n, if_false, cn3, ge3, cn4, ge4, d_setScent S s q1 F6 34 ht10 hc4]
/-! a bather -/
theorem upd_same {f : Nat → Int32} {i : Nat} {x : Int32} (h : f i = x) : upd f i x = f := by
  funext j
  rw [upd_app]
  by_cases e : j = i
  · rw [if_pos e, e, h]
  · rw [if_neg e]
theorem ph_step {n k a e : Nat} {A : Nat → Nat → Int32} {r : Nat → Int32} {F : Nat → Nat → Int32} (Z : TS n A k a e r F) {p : Nat → Int32} {m u i M : Nat} (hm : m < 8) (hp : p 0 = nI (m + 1)) (hu : u < 4) (hM : mostS u = nI M) (hM2 : M ≤ 9999) (hi : i < 14) (p0 : p (54 + 4 * m + u) = 0) (S : Nat → Nat → Int32) (s q : Nat → Int32) :
    (∃ v r' F' k' a' e', v ≤ M ∧ rv_EV 187 [.ref 0, .int (wdI A n k a e i), .int (nI u)] (mR A p r) = some (some (.int 1), mR A (upd p (54 + 4 * m + u) (nI v)) r') ∧ (∀ G : Int32 → rv_W → Option rv_X, ((rv_ri (rv_EV 45 [.ref 35, .ref (1000 + i)] (cD S s q F 34))).bind fun q3 => (bif rv_cnd .eq q3.1 0 then G 0 q3.2 else ((rv_ri (rv_EV 46 [.ref 35, .int (nI M)] q3.2)).bind fun q4 => G q4.1 q4.2))) = G (nI v) (cD S s q F' 34)) ∧ TS n A k' a' e' r' F' ∧ a ≤ a' ∧ frR r r' ∧ frF F F')
    ∨ (∃ r' F' a', rv_EV 187 [.ref 0, .int (wdI A n k a e i), .int (nI u)] (mR A p r) = some (some (.int 0), mR A p r') ∧ (∀ G : Int32 → rv_W → Option rv_X, ((rv_ri (rv_EV 45 [.ref 35, .ref (1000 + i)] (cD S s q F 34))).bind fun q3 => (bif rv_cnd .eq q3.1 0 then G 0 q3.2 else ((rv_ri (rv_EV 46 [.ref 35, .int (nI M)] q3.2)).bind fun q4 => G q4.1 q4.2))) = G (-1) (cD S s q F' 34)) ∧ r' 15 = nI a' ∧ F' 35 3 = nI a' ∧ a ≤ a' ∧ a' ≤ n ∧ frL r r' ∧ frF F F') := by
  by_cases g : WD A n k a e i
  rotate_left
  · left
    refine ⟨0, r, F, k, a, e, Nat.zero_le _, ?_, fun G => ?_, Z, Nat.le_refl _, frR_r r, frF_r F⟩
    · rw [wdI_n g, ev_X5_perhaps _ _ _ _ (obR A p r)]
      simp only [cb_eq, cb_ne, cb_lt, cb_ge, cb_gt, cb_le, cb_q, cb_qL, ri_s2, rl_s, rr_s, rv_s, bd_s, i10, cond_true, cond_false, if_true, nI_0, upd_same p0]
    · simp only [cb_eq, cb_ne, cb_lt, cb_ge, cb_gt, cb_le, cb_q, cb_qL, ri_s2, rl_s, rr_s, rv_s, bd_s, i10, cond_true, cond_false, c_word_n Z hi g S s q, if_true, nI_0]
  obtain ⟨r1, F1, k1, a1, e1, nt1, cx1, Z1, ha1, f1, g1⟩ := ts_next Z p S s q
  have hae := wd_a Z g
  have cw := c_word_y Z hi g cx1
  rw [wdI_y g]
  rcases nm_step Z1 (m := M) (M := nI M) rfl hM2 p (fun v => upd p (54 + 4 * m + u) (nI v)) S s q with ⟨v, r2, F2, k2, a2, e2, hv, e14, is, nt2, cn, Z2, ha2, f2, g2⟩ | ⟨is, cn, e3⟩
  · left
    have st := stR A p r1 (show 54 + 4 * m + u < 96 by omega) (nI v)
    have em : nI (m + 1) - 1 = nI m := pk_sub (a := m + 1) (b := 1) (by omega)
    refine ⟨v, r2, F2, k2, a2, e2, hv, ?_, fun G => ?_, Z2, by omega, f1.trans f2, g1.trans g2⟩
    · rw [ev_X5_perhaps _ _ _ _ (obR A p r)]
      simp only [cb_eq, cb_ne, cb_lt, cb_ge, cb_gt, cb_le, cb_q, cb_qL, ri_s2, rl_s, rr_s, rv_s, bd_s, i10, cond_true, cond_false, lgR4, sgR4, lgR7, sgR7, lgR11, sgR11, lgR12, sgR12, lgR13, sgR13, lgR14, sgR14, lgR15, sgR15, lfR_1, lfR_2, lfR_3, lfR_5, lfR_6, lfR_8, lfR_9, lfR_10, i10_n, if_false, nt1, m_greatestOf hu, hM, is, lfR, ldR0, hp, em, c54_, e14, st, nt2]
    · simp only [cb_eq, cb_ne, cb_lt, cb_ge, cb_gt, cb_le, cb_q, cb_qL, ri_s2, rl_s, rr_s, rv_s, bd_s, i10, cond_true, cond_false, cw, i10_n, if_false, cn]
  · right
    refine ⟨upd r1 15 (nI a1), F1, a1, ?_, fun G => ?_, rfl, e3, by omega, ts_an Z1, frL_u f1.L _, g1⟩
    · rw [ev_X5_perhaps _ _ _ _ (obR A p r)]
      simp only [cb_eq, cb_ne, cb_lt, cb_ge, cb_gt, cb_le, cb_q, cb_qL, ri_s2, rl_s, rr_s, rv_s, bd_s, i10, cond_true, cond_false, lgR4, sgR4, lgR7, sgR7, lgR11, sgR11, lgR12, sgR12, lgR13, sgR13, lgR14, sgR14, lgR15, sgR15, lfR_1, lfR_2, lfR_3, lfR_5, lfR_6, lfR_8, lfR_9, lfR_10, i10_n, if_false, nt1, m_greatestOf hu, hM, is, if_true]
    · simp only [cb_eq, cb_ne, cb_lt, cb_ge, cb_gt, cb_le, cb_q, cb_qL, ri_s2, rl_s, rr_s, rv_s, bd_s, i10, cond_true, cond_false, cw, i10_n, if_false, cn]
theorem newB_3 (q : Nat → Int32) (n : Nat) (k t o w : Int32) : upd (upd (upd (newB q n k 0 0 0) (54 + 4 * n + 1) t) (54 + 4 * n + 2) o) (54 + 4 * n + 3) w = newB q n k t o w := by
  funext i
  simp only [newB, upd]
  grind
