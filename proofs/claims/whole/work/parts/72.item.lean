theorem rc_e0 : rv_cnd .eq (0 : Int32) 0 = true := @decide_eq_true _ (Classical.propDecidable _) rfl
theorem rc_e1 : rv_cnd .eq (1 : Int32) 0 = false := @decide_eq_false _ (Classical.propDecidable _) (by decide)
theorem rc_l1 : rv_cnd .lt (-1 : Int32) 0 = true := @decide_eq_true _ (Classical.propDecidable _) (by decide)
theorem it_bather {n k a e : Nat} {A : Nat → Nat → Int32} {r : Nat → Int32} {F : Nat → Nat → Int32} (Z : TS n A k a e r F) {h : Nat} {q : Nat → Int32} (I : Inv h q) {j : Nat} (hj : j < 7) (hae : a < e) (S : Nat → Nat → Int32) (s : Nat → Int32) : IT h n A S s a r F (rv_EV 188 [.ref 0, .int (nI j)] (mR A q r)) (rv_EV 40 [.ref 35, .ref (sp 2), .int (nI j)] (cD S s q F 34)) := by
  obtain ⟨m, hm, hs, -, -⟩ := I.1
  by_cases m8 : m = 8
  · subst m8
    right
    have a1 : r 12 = nI a := Z.2.2.2.2.1.1
    have n8 : ¬ nI 8 < (8 : Int32) := by decide
    have y8 : nI 8 = (8 : Int32) := rfl
    refine ⟨upd r 15 (nI a), F, a, q, q, ?_, ?_, rfl, Z.2.2.2.2.1.2, Nat.le_refl _, ts_an Z, frL_u (frL_r r) _, frF_r F⟩
    · rw [ev_X5_batherHere _ _ _ (obR A q r)]
      simp only [cb_eq, cb_ne, cb_lt, cb_ge, cb_gt, cb_le, cb_q, cb_qL, ri_s2, rl_s, rr_s, rv_s, bd_s, i10, cond_true, cond_false, lfR, ldR0, hs, y8, if_true, r_fails, a1, bz_0]
    · rw [ev_X3_readBather _ _ _ _ (obBD S s q F 34)]
      simp only [cb_eq, cb_ne, cb_lt, cb_ge, cb_gt, cb_le, cb_q, cb_qL, ri_s2, rl_s, rr_s, rv_s, bd_s, i10, cond_true, cond_false, d_isFull, hs, n8, if_false, i10_n]
  have hm8 : m < 8 := by omega
  have l8 : nI m < (8 : Int32) := nI_lt (a := m) (b := 8) hm8 (by decide)
  have n8 : ¬ nI m = (8 : Int32) := fun f => m8 ((nI_eq (a := m) (b := 8) (by omega) (by decide)).mp f)
  have cm := r_comes A q r hm8 hs (nI j) 0 0 0
  obtain ⟨v0, v1, v2, v3, v4⟩ := newB_at q m (nI j) 0 0 0
  obtain ⟨r1, F1, k1, a1, e1, nt1, cx1, Z1, ha1, f1, g1⟩ := ts_next Z (newB q m (nI j) 0 0 0) S s q
  have cf : rv_EV 11 [.ref (sp 2)] (cD S s q F 34) = some (some (.int 0), cD S s q F 34) := by rw [d_isFull, hs, if_pos l8]
  have e7 := r_in Z1 (newB q m (nI j) 0 0 0)
  rcases ph_step Z1 (p := newB q m (nI j) 0 0 0) (m := m) (u := 1) (i := 7) (M := 9) hm8 v0 (by decide) rfl (by decide) (by decide) v2 S s q with ⟨t, r2, F2, k2, a2, e2, ht, pm1, pc1, Z2, ha2, f2, g2⟩ | ⟨r2, F2, a2, pm1, pc1, e15, e3, ha2, hn2, f2, g2⟩
  rotate_left
  · right
    refine ⟨r2, F2, a2, newB q m (nI j) 0 0 0, q, ?_, ?_, e15, e3, by omega, hn2, f1.L.trans f2, g1.trans g2⟩
    · have pm1 : rv_EV 187 [.ref 0, .int (wdI A n k1 a1 e1 7), .int 1] (mR A (newB q m (nI j) 0 0 0) r1) = _ := pm1
      rw [ev_X5_batherHere _ _ _ (obR A q r)]
      simp only [cb_eq, cb_ne, cb_lt, cb_ge, cb_gt, cb_le, cb_q, cb_qL, ri_s2, rl_s, rr_s, rv_s, bd_s, i10, cond_true, cond_false, lfR, ldR0, hs, n8, if_false, cm, nt1, e7, pm1, if_true]
    · rw [ev_X3_readBather _ _ _ _ (obBD S s q F 34), cf]
      simp only [ri_s2, bd_s, rc_e0, cond_true, cx1, rv_s]
      refine (pc1 (fun x w => rv_GO rc_X3_readBather 32 [some (.ref 35), some (.ref (sp 2)), some (.int (nI j)), none, none, none] [.int x] w)).trans ?_
      simp only [bk_X3_readBather_32, cb_eq, cb_ne, cb_lt, cb_ge, cb_gt, cb_le, cb_q, cb_qL, ri_s2, rl_s, rr_s, rv_s, bd_s, i10, cond_true, cond_false, mn_ge, if_false]
  have p2a : upd (newB q m (nI j) 0 0 0) (54 + 4 * m + 1) (nI t) 0 = nI (m + 1) := (pk_un (by omega)).trans v0
  have p2b : upd (newB q m (nI j) 0 0 0) (54 + 4 * m + 1) (nI t) (54 + 4 * m + 2) = 0 := (pk_un (by omega)).trans v3
  have p2c : upd (newB q m (nI j) 0 0 0) (54 + 4 * m + 1) (nI t) (54 + 4 * m + 3) = 0 := (pk_un (by omega)).trans v4
  have e8 := r_with Z2 (upd (newB q m (nI j) 0 0 0) (54 + 4 * m + 1) (nI t))
  have get : 0 ≤ nI t := nI_pos' (by omega)
  have pm1 : rv_EV 187 [.ref 0, .int (wdI A n k1 a1 e1 7), .int 1] (mR A (newB q m (nI j) 0 0 0) r1) = _ := pm1
  have pc1 := pc1 (fun x w => rv_GO rc_X3_readBather 32 [some (.ref 35), some (.ref (sp 2)), some (.int (nI j)), none, none, none] [.int x] w)
  have cb1 : rv_EV 40 [.ref 35, .ref (sp 2), .int (nI j)] (cD S s q F 34) = rv_GO rc_X3_readBather 32 [some (.ref 35), some (.ref (sp 2)), some (.int (nI j)), none, none, none] [.int (nI t)] (cD S s q F2 34) := by
    rw [ev_X3_readBather _ _ _ _ (obBD S s q F 34), cf]
    simp only [ri_s2, bd_s, rc_e0, cond_true, cx1, rv_s]
    exact pc1
  rcases ph_step Z2 (p := upd (newB q m (nI j) 0 0 0) (54 + 4 * m + 1) (nI t)) (m := m) (u := 2) (i := 8) (M := 3) hm8 p2a (by decide) rfl (by decide) (by decide) p2b S s q with ⟨o, r3, F3, k3, a3, e3, ho, pm2, pc2, Z3, ha3, f3, g3⟩ | ⟨r3, F3, a3, pm2, pc2, e15, e3, ha3, hn3, f3, g3⟩
  rotate_left
  · right
    refine ⟨r3, F3, a3, upd (newB q m (nI j) 0 0 0) (54 + 4 * m + 1) (nI t), q, ?_, ?_, e15, e3, by omega, hn3, (f1.L.trans f2.L).trans f3, (g1.trans g2).trans g3⟩
    · have pm2 : rv_EV 187 [.ref 0, .int (wdI A n k2 a2 e2 8), .int 2] (mR A (upd (newB q m (nI j) 0 0 0) (54 + 4 * m + 1) (nI t)) r2) = _ := pm2
      rw [ev_X5_batherHere _ _ _ (obR A q r)]
      simp only [cb_eq, cb_ne, cb_lt, cb_ge, cb_gt, cb_le, cb_q, cb_qL, ri_s2, rl_s, rr_s, rv_s, bd_s, i10, cond_true, cond_false, lfR, ldR0, hs, n8, if_false, cm, nt1, e7, pm1, i10_n, e8, pm2, if_true]
    · rw [cb1, bk_X3_readBather_32]
      simp only [cb_ge, get, if_true]
      refine (pc2 (fun x w => rv_GO rc_X3_readBather 57 [some (.ref 35), some (.ref (sp 2)), some (.int (nI j)), some (.int (nI t)), none, none] [.int x] w)).trans ?_
      simp only [bk_X3_readBather_57, cb_eq, cb_ne, cb_lt, cb_ge, cb_gt, cb_le, cb_q, cb_qL, ri_s2, rl_s, rr_s, rv_s, bd_s, i10, cond_true, cond_false, mn_ge, if_false]
  have p3a : upd (upd (newB q m (nI j) 0 0 0) (54 + 4 * m + 1) (nI t)) (54 + 4 * m + 2) (nI o) 0 = nI (m + 1) := (pk_un (by omega)).trans p2a
  have p3c : upd (upd (newB q m (nI j) 0 0 0) (54 + 4 * m + 1) (nI t)) (54 + 4 * m + 2) (nI o) (54 + 4 * m + 3) = 0 := (pk_un (by omega)).trans p2c
  have e9 := r_knowsW Z3 (upd (upd (newB q m (nI j) 0 0 0) (54 + 4 * m + 1) (nI t)) (54 + 4 * m + 2) (nI o))
  have geo : 0 ≤ nI o := nI_pos' (by omega)
  have pm2 : rv_EV 187 [.ref 0, .int (wdI A n k2 a2 e2 8), .int 2] (mR A (upd (newB q m (nI j) 0 0 0) (54 + 4 * m + 1) (nI t)) r2) = _ := pm2
  have pc2 := pc2 (fun x w => rv_GO rc_X3_readBather 57 [some (.ref 35), some (.ref (sp 2)), some (.int (nI j)), some (.int (nI t)), none, none] [.int x] w)
  have cb2 : rv_EV 40 [.ref 35, .ref (sp 2), .int (nI j)] (cD S s q F 34) = rv_GO rc_X3_readBather 57 [some (.ref 35), some (.ref (sp 2)), some (.int (nI j)), some (.int (nI t)), none, none] [.int (nI o)] (cD S s q F3 34) := by
    rw [cb1, bk_X3_readBather_32]
    simp only [cb_ge, get, if_true]
    exact pc2
  rcases ph_step Z3 (p := upd (upd (newB q m (nI j) 0 0 0) (54 + 4 * m + 1) (nI t)) (54 + 4 * m + 2) (nI o)) (m := m) (u := 3) (i := 9) (M := 15) hm8 p3a (by decide) rfl (by decide) (by decide) p3c S s q with ⟨u, r4, F4, k4, a4, e4, hu, pm3, pc3, Z4, ha4, f4, g4⟩ | ⟨r4, F4, a4, pm3, pc3, e15, e3x, ha4, hn4, f4, g4⟩
  rotate_left
  · right
    refine ⟨r4, F4, a4, upd (upd (newB q m (nI j) 0 0 0) (54 + 4 * m + 1) (nI t)) (54 + 4 * m + 2) (nI o), q, ?_, ?_, e15, e3x, by omega, hn4, ((f1.L.trans f2.L).trans f3.L).trans f4, ((g1.trans g2).trans g3).trans g4⟩
    · have pm3 : rv_EV 187 [.ref 0, .int (wdI A n k3 a3 e3 9), .int 3] (mR A (upd (upd (newB q m (nI j) 0 0 0) (54 + 4 * m + 1) (nI t)) (54 + 4 * m + 2) (nI o)) r3) = _ := pm3
      rw [ev_X5_batherHere _ _ _ (obR A q r)]
      simp only [cb_eq, cb_ne, cb_lt, cb_ge, cb_gt, cb_le, cb_q, cb_qL, ri_s2, rl_s, rr_s, rv_s, bd_s, i10, cond_true, cond_false, lfR, ldR0, hs, n8, if_false, cm, nt1, e7, pm1, i10_n, e8, pm2, e9, pm3, if_true]
    · rw [cb2, bk_X3_readBather_57]
      simp only [cb_ge, geo, if_true]
      refine (pc3 (fun x w => rv_GO rc_X3_readBather 85 [none, some (.ref (sp 2)), some (.int (nI j)), some (.int (nI t)), some (.int (nI o)), none] [.int x] w)).trans ?_
      simp only [bk_X3_readBather_85, cb_eq, cb_ne, cb_lt, cb_ge, cb_gt, cb_le, cb_q, cb_qL, ri_s2, rl_s, rr_s, rv_s, bd_s, i10, cond_true, cond_false, mn_ge, if_false]
  left
  have geu : 0 ≤ nI u := nI_pos' (by omega)
  rw [newB_3] at pm3
  have pm3 : rv_EV 187 [.ref 0, .int (wdI A n k3 a3 e3 9), .int 3] (mR A (upd (upd (newB q m (nI j) 0 0 0) (54 + 4 * m + 1) (nI t)) (54 + 4 * m + 2) (nI o)) r3) = _ := pm3
  refine ⟨r4, F4, k4, a4, e4, newB q m (nI j) (nI t) (nI o) (nI u), ?_, ?_, Z4, Inv_new I hm8 hs hj (by omega) (by omega) (by omega), by omega, ((f1.L.trans f2.L).trans f3.L).trans f4.L, ((g1.trans g2).trans g3).trans g4⟩
  · rw [ev_X5_batherHere _ _ _ (obR A q r)]
    simp only [cb_eq, cb_ne, cb_lt, cb_ge, cb_gt, cb_le, cb_q, cb_qL, ri_s2, rl_s, rr_s, rv_s, bd_s, i10, cond_true, cond_false, lfR, ldR0, hs, n8, if_false, cm, nt1, e7, pm1, i10_n, e8, pm2, e9, pm3]
  · rw [cb2, bk_X3_readBather_57]
    simp only [cb_ge, geo, if_true]
    refine (pc3 (fun x w => rv_GO rc_X3_readBather 85 [none, some (.ref (sp 2)), some (.int (nI j)), some (.int (nI t)), some (.int (nI o)), none] [.int x] w)).trans ?_
    simp only [bk_X3_readBather_85, cb_eq, cb_ne, cb_lt, cb_ge, cb_gt, cb_le, cb_q, cb_qL, ri_s2, rl_s, rr_s, rv_s, bd_s, i10, cond_true, cond_false, geu, if_true, d_addBather S s q F4 34 hm8 hs]
/-! AN ITEM -/
theorem r_tubI {n k a e : Nat} {A : Nat → Nat → Int32} {r : Nat → Int32} {F : Nat → Nat → Int32} (Z : TS n A k a e r F) (s : Nat → Int32) (j : Int32) (hk : rv_EV 185 [.ref 0] (mR A s r) = some (some (.int (-1)), mR A s r)) : rv_EV 192 [.ref 0] (mR A s r) = if (k = 1 ∧ e = a + 3) ∧ (bt A n (a + 0) = 116 ∧ bt A n (a + 0 + 1) = 117 ∧ bt A n (a + 0 + 2) = 98) then ((rv_ri (rv_EV 189 [.ref 0] (mR A s r))).bind fun q4 => (bif rv_bz q4.1 then some (some (.int q4.1), q4.2) else none)) else rv_GO rc_X5_itemHere 42 [some (.ref 0), none] [] (mR A s r) := by
  have w : rv_EV 179 [.ref 0, .int 3] (mR A s r) = some (some (.int (if k = 1 ∧ e = a + 3 then 1 else 0)), mR A s r) := r_isWord Z.1.1 Z.2.2.2 (l := 3) (by decide)
  have t0 : rv_EV 178 [.ref 0, .int 0, .int 116, .int 117, .int 98] (mR A s r) = _ := r_has3 Z.1.1 Z.2.1 Z.2.2.2 (i := 0) (by decide) 116 117 98
  rw [ev_X5_itemHere _ _ (obR A s r), hk]
  simp only [cb_eq, cb_ne, cb_lt, cb_ge, cb_gt, cb_le, cb_q, cb_qL, ri_s2, rl_s, rr_s, rv_s, bd_s, i10, cond_true, cond_false, mn_lt, if_true, w, t0]
  rw [ifc2]
theorem IT.bz {h n : Nat} {A : Nat → Nat → Int32} {S : Nat → Nat → Int32} {s : Nat → Int32} {a : Nat} {r : Nat → Int32} {F : Nat → Nat → Int32} {om oc : Option rv_X} (x : IT h n A S s a r F om oc) : IT h n A S s a r F ((rv_ri om).bind fun q4 => (bif rv_bz q4.1 then some (some (.int q4.1), q4.2) else none)) ((rv_ri oc).bind fun q4 => (bif rv_bz q4.1 then some (some (.int q4.1), q4.2) else none)) := by
  rcases x with ⟨r', F', k', a', e', q', h1, h2, h3, h4, h5, h6, h7⟩ | ⟨r', F', a', p', q', h1, h2, h3, h4, h5, h6, h7, h8⟩
  · exact Or.inl ⟨r', F', k', a', e', q', by rw [h1]; rfl, by rw [h2]; rfl, h3, h4, h5, h6, h7⟩
  · exact Or.inr ⟨r', F', a', p', q', by rw [h1]; rfl, by rw [h2]; rfl, h3, h4, h5, h6, h7, h8⟩
theorem IT.bm {h n : Nat} {A : Nat → Nat → Int32} {S : Nat → Nat → Int32} {s : Nat → Int32} {a : Nat} {r : Nat → Int32} {F : Nat → Nat → Int32} {om oc : Option rv_X} (x : IT h n A S s a r F om oc) : IT h n A S s a r F ((rv_ri om).bind fun q4 => (bif rv_bz q4.1 then some (some (.int q4.1), q4.2) else none)) oc := by
  rcases x with ⟨r', F', k', a', e', q', h1, h2, h3, h4, h5, h6, h7⟩ | ⟨r', F', a', p', q', h1, h2, h3, h4, h5, h6, h7, h8⟩
  · exact Or.inl ⟨r', F', k', a', e', q', by rw [h1]; rfl, h2, h3, h4, h5, h6, h7⟩
  · exact Or.inr ⟨r', F', a', p', q', by rw [h1]; rfl, h2, h3, h4, h5, h6, h7, h8⟩
theorem it_item {n k a e : Nat} {A : Nat → Nat → Int32} {r : Nat → Int32} {F : Nat → Nat → Int32} (Z : TS n A k a e r F) {h : Nat} {q : Nat → Int32} (I : Inv h q) (S : Nat → Nat → Int32) (s : Nat → Int32) : IT h n A S s a r F (rv_EV 192 [.ref 0] (mR A q r)) (rv_EV 39 [.ref 35, .ref (sp 2)] (cD S s q F 34)) := by
  rcases kd_both Z q S s q with ⟨j, hj, hae, hm, hc⟩ | ⟨hm, hc⟩
  · have ib := (it_bather Z I hj hae S s).bz
    have lt : ¬ nI j < 0 := nI_pos (by omega)
    have e1 : rv_EV 192 [.ref 0] (mR A q r) = ((rv_ri (rv_EV 188 [.ref 0, .int (nI j)] (mR A q r))).bind fun q4 => (bif rv_bz q4.1 then some (some (.int q4.1), q4.2) else none)) := by
      rw [ev_X5_itemHere _ _ (obR A q r), hm]
      simp only [ri_s2, bd_s, cb_lt, lt, if_false]
    have e2 : rv_EV 39 [.ref 35, .ref (sp 2)] (cD S s q F 34) = ((rv_ri (rv_EV 40 [.ref 35, .ref (sp 2), .int (nI j)] (cD S s q F 34))).bind fun q4 => (bif rv_bz q4.1 then some (some (.int q4.1), q4.2) else none)) := by
      rw [ev_X3_readItem _ _ _ (obBD S s q F 34), hc]
      simp only [ri_s2, bd_s, cb_lt, lt, if_false]
    rw [e1, e2]
    exact ib
  have e0 := r_tubI Z q 0 hm
  have c0 : rv_EV 39 [.ref 35, .ref (sp 2)] (cD S s q F 34) = _ := ev_X3_readItem _ _ _ (obBD S s q F 34)
  rw [hc] at c0
  simp only [ri_s2, bd_s, rc_l1, cond_true] at c0
  by_cases w10 : WD A n k a e 10
  · obtain ⟨r1, F1, k1, a1, e1, nt1, cx1, Z1, ha1, f1, g1⟩ := ts_next Z q S s q
    have hae := wd_a Z w10
    obtain ⟨x0, x1, x2, x3⟩ := WD_10.mp w10
    have cw : rv_EV 45 [.ref 35, .ref 1010] (cD S s q F 34) = some (some (.int 1), cD S s q F1 34) := c_word_y Z (i := 10) (by decide) w10 cx1
    rw [if_pos ⟨x0, x1, x2, x3⟩] at e0
    rw [cw] at c0
    simp only [ri_s2, bd_s, rc_e1, cond_false] at c0
    rw [e0, c0]
    exact (it_tub Z1 nt1 I S s).bz.weak (by omega) f1.L g1
  have cw : rv_EV 45 [.ref 35, .ref 1010] (cD S s q F 34) = some (some (.int 0), cD S s q F 34) := c_word_n Z (i := 10) (by decide) w10 S s q
  rw [if_neg (fun f => w10 (WD_10.mpr ⟨f.1, f.2.1, f.2.2.1, f.2.2.2⟩)), bk_X5_itemHere_42, r_freshW Z q] at e0
  rw [cw] at c0
  simp only [ri_s2, bd_s, rc_e0, cond_true] at c0
  by_cases w12 : WD A n k a e 12
  · obtain ⟨r1, F1, k1, a1, e1, nt1, cx1, Z1, ha1, f1, g1⟩ := ts_next Z q S s q
    have hae := wd_a Z w12
    have cw : rv_EV 45 [.ref 35, .ref 1012] (cD S s q F 34) = some (some (.int 1), cD S s q F1 34) := c_word_y Z (i := 12) (by decide) w12 cx1
    rw [wdI_y w12] at e0
    simp only [ri_s2, bd_s, cb_eq, i10_n, if_false] at e0
    rw [cw] at c0
    simp only [ri_s2, bd_s, rc_e1, cond_false] at c0
    rw [e0, c0]
    exact (it_fresh Z1 nt1 I S s).bm.weak (by omega) f1.L g1
  have cw : rv_EV 45 [.ref 35, .ref 1012] (cD S s q F 34) = some (some (.int 0), cD S s q F 34) := c_word_n Z (i := 12) (by decide) w12 S s q
  rw [wdI_n w12] at e0
  simp only [ri_s2, bd_s, cb_eq, if_true, r_plugW Z q] at e0
  rw [cw] at c0
  simp only [ri_s2, bd_s, rc_e0, cond_true] at c0
  by_cases w13 : WD A n k a e 13
  · obtain ⟨r1, F1, k1, a1, e1, nt1, cx1, Z1, ha1, f1, g1⟩ := ts_next Z q S s q
    have hae := wd_a Z w13
    have cw : rv_EV 45 [.ref 35, .ref 1013] (cD S s q F 34) = some (some (.int 1), cD S s q F1 34) := c_word_y Z (i := 13) (by decide) w13 cx1
    rw [wdI_y w13] at e0
    simp only [i10_n, if_false] at e0
    rw [cw] at c0
    simp only [ri_s2, bd_s, rc_e1, cond_false] at c0
    rw [e0, c0]
    exact (it_plug Z1 nt1 I S s).bm.weak (by omega) f1.L g1
  have cw : rv_EV 45 [.ref 35, .ref 1013] (cD S s q F 34) = some (some (.int 0), cD S s q F 34) := c_word_n Z (i := 13) (by decide) w13 S s q
  rw [wdI_n w13] at e0
  simp only [if_true, r_fails, ri_s2, bd_s, bz_0, cond_true] at e0
  rw [cw] at c0
  simp only [ri_s2, bd_s, rc_e0, cond_true] at c0
  have a1 : r 12 = nI a := Z.2.2.2.2.1.1
  rw [e0, c0, a1]
  exact Or.inr ⟨upd r 15 (nI a), F, a, q, q, rfl, rfl, rfl, Z.2.2.2.2.1.2, Nat.le_refl _, ts_an Z, frL_u (frL_r r) _, frF_r F⟩
