/-! A WHOLE TEXT -/
def frS (r r' : Nat → Int32) : Prop := ∀ i, i < 11 → ¬ i = 7 → r' i = r i
theorem frL.S {r r' : Nat → Int32} (a : frL r r') (x : Int32) : frS r (upd r' 7 x) := fun i h1 h2 => (pk_un h2).trans (a i h1)
theorem frL.SS {r r' r'' : Nat → Int32} (a : frL r r') (b : frS r' r'') : frS r r'' := fun i h1 h2 => (b i h1 h2).trans (a i h1)
def TX (h : Nat) (A : Nat → Nat → Int32) (S : Nat → Nat → Int32) (s : Nat → Int32) (r : Nat → Int32) (F : Nat → Nat → Int32) (om oc : Option rv_X) : Prop :=
  (∃ i r' F' q', i < 1000 ∧ om = some (some (.int (nI i)), mR A q' r') ∧ oc = some (some (.int (nI i)), cD S s q' F' 34) ∧ Inv h q' ∧ r' 7 = 0 ∧ frS r r' ∧ frF F F')
  ∨ (∃ a r' F' q', a < 1000 ∧ om = some (some (.int ((-1) - nI a)), mR A (A 3) r') ∧ oc = some (some (.int ((-1) - nI a)), cD S s q' F' 34) ∧ r' 7 = 0 ∧ frS r r' ∧ frF F F')
theorem TX.weak {h : Nat} {A : Nat → Nat → Int32} {S : Nat → Nat → Int32} {s : Nat → Int32} {r r1 : Nat → Int32} {F F1 : Nat → Nat → Int32} {om oc : Option rv_X} (x : TX h A S s r1 F1 om oc) (fr : frL r r1) (fF : frF F F1) : TX h A S s r F om oc := by
  rcases x with ⟨i, r', F', q', h1, h2, h3, h4, h5, h6, h7⟩ | ⟨i, r', F', q', h1, h2, h3, h5, h6, h7⟩
  · exact Or.inl ⟨i, r', F', q', h1, h2, h3, h4, h5, fr.SS h6, fF.trans h7⟩
  · exact Or.inr ⟨i, r', F', q', h1, h2, h3, h5, fr.SS h6, fF.trans h7⟩
theorem r_cp31x (A : Nat → Nat → Int32) (p r : Nat → Int32) : rv_EV 110 [.ref 3, .ref 1] (mR A p r) = some (none, mR A (A 3) r) := by
  have := r_cp31 A (A 3) p r
  rw [upA_self] at this
  exact this
theorem r_end_n (A : Nat → Nat → Int32) (p r : Nat → Int32) (i : Int32) {a : Nat} (h15 : r 15 = nI a) : rv_GO rc_X5_text 77 [some (.ref 0), some (.int i), none] [.int 0] (mR A p r) = some (some (.int ((-1) - nI a)), mR A (A 3) (upd r 7 0)) := by
  have h15' : upd r 7 0 15 = nI a := h15
  rw [bk_X5_text_77]
  simp only [cb_eq, cb_ne, cb_lt, cb_ge, cb_gt, cb_le, cb_q, cb_qL, ri_s2, rl_s, rr_s, rv_s, bd_s, i10, cond_true, cond_false, lgR4, sgR4, lgR7, sgR7, lgR11, sgR11, lgR12, sgR12, lgR13, sgR13, lgR14, sgR14, lgR15, sgR15, lfR_1, lfR_2, lfR_3, lfR_5, lfR_6, lfR_8, lfR_9, lfR_10, if_true, lfR, r_cp31x, bk_X5_text_98, h15']
theorem r_end_y (A : Nat → Nat → Int32) (p r : Nat → Int32) (i : Int32) : rv_GO rc_X5_text 77 [some (.ref 0), some (.int i), none] [.int 1] (mR A p r) = some (some (.int i), mR A p (upd r 7 0)) := by
  rw [bk_X5_text_77]
  simp only [cb_eq, cb_ne, cb_lt, cb_ge, cb_gt, cb_le, cb_q, cb_qL, ri_s2, rl_s, rr_s, rv_s, bd_s, i10, cond_true, cond_false, lgR4, sgR4, lgR7, sgR7, lgR11, sgR11, lgR12, sgR12, lgR13, sgR13, lgR14, sgR14, lgR15, sgR15, lfR_1, lfR_2, lfR_3, lfR_5, lfR_6, lfR_8, lfR_9, lfR_10, i10_n, if_false, bk_X5_text_98]
theorem tx_loop {n h : Nat} {A : Nat → Nat → Int32} (S : Nat → Nat → Int32) (s : Nat → Int32) : ∀ (d k a e i : Nat) (r : Nat → Int32) (F : Nat → Nat → Int32) (q : Nat → Int32), n + 1 ≤ a + d → TS n A k a e r F → Inv h q → i ≤ a + 1 →
    TX h A S s r F ((rv_ri (rv_EV 192 [.ref 0] (mR A q r))).bind fun q3 => rv_GO rc_X5_text 27 [some (.ref 0), some (.int (nI i)), some (.int q3.1)] [] q3.2) (rv_GO rc_X3_readText 27 [some (.ref 35), none, none, some (.ref (sp 2)), some (.int (nI i))] [] (cD S s q F 34)) := by
  intro d
  induction d with
  | zero =>
    intro k a e i r F q hd Z
    have := ts_an Z
    omega
  | succ d ih =>
    intro k a e i r F q hd Z I hi
    have han := ts_an Z
    have hn := Z.1.1
    have x1 := it_item Z I S s
    have fl : F 35 1 = nI n := Z.2.2.1
    have e3 : F 35 3 = nI a := Z.2.2.2.2.1.2
    rcases x1 with ⟨r', F', k', a', e', q', h1, h2, Z', I', ha', fr, fF⟩ | ⟨r', F', a', p', q', h1, h2, e15, e3', ha', hn', fr, fF⟩
    · have ha'n := ts_an Z'
      have le : ¬ nI n < nI i := nI_nlt (by omega) (by omega)
      have k1 : r' 11 = nI k' := Z'.2.2.2.1.1
      have k2 : F' 35 2 = nI k' := Z'.2.2.2.1.2
      have e3' : F' 35 3 = nI a' := Z'.2.2.2.2.1.2
      have a12 : r' 12 = nI a' := Z'.2.2.2.2.1.1
      have hk4 : k' ≤ 4 := Z'.2.2.2.2.2.2.1
      have q3 : (nI k' = 3) = (k' = 3) := propext (nI_eq (a := k') (b := 3) (by omega) (by decide))
      have q0 : (nI k' = 0) = (k' = 0) := propext (nI_eq (a := k') (b := 0) (by omega) (by decide))
      have m0 : ((rv_ri (rv_EV 192 [.ref 0] (mR A q r))).bind fun q3 => rv_GO rc_X5_text 27 [some (.ref 0), some (.int (nI i)), some (.int q3.1)] [] q3.2) = rv_GO rc_X5_text 27 [some (.ref 0), some (.int (nI i)), some (.int 1)] [] (mR A q' r') := by
        rw [h1, ri_s2, bd_s]
      by_cases c3 : k' = 3
      · obtain ⟨r2, F2, k2', a2, e2, nt, cx, Z2, ha2, f2, g2⟩ := ts_next Z' q' S s q'
        have hae : a' < e' := Z'.2.2.2.2.2.2.2.2.2.2 (by omega)
        have z3 : nI k' = 3 := by rw [c3]; rfl
        have k1z := k1.trans z3
        have k2z := k2.trans z3
        have m1 : rv_GO rc_X5_text 27 [some (.ref 0), some (.int (nI i)), some (.int 1)] [] (mR A q' r') = ((rv_ri (rv_EV 192 [.ref 0] (mR A q' r2))).bind fun q3 => rv_GO rc_X5_text 27 [some (.ref 0), some (.int (nI (i + 1))), some (.int q3.1)] [] q3.2) := by
          rw [bk_X5_text_27]
          simp only [cb_eq, cb_ne, cb_lt, cb_ge, cb_gt, cb_le, cb_q, cb_qL, ri_s2, rl_s, rr_s, rv_s, bd_s, i10, cond_true, cond_false, lgR4, sgR4, lgR7, sgR7, lgR11, sgR11, lgR12, sgR12, lgR13, sgR13, lgR14, sgR14, lgR15, sgR15, lfR_1, lfR_2, lfR_3, lfR_5, lfR_6, lfR_8, lfR_9, lfR_10, i10_n, if_false, k1z, if_true, nt, nI_1]
        have c1 : rv_GO rc_X3_readText 27 [some (.ref 35), none, none, some (.ref (sp 2)), some (.int (nI i))] [] (cD S s q F 34) = rv_GO rc_X3_readText 27 [some (.ref 35), none, none, some (.ref (sp 2)), some (.int (nI (i + 1)))] [] (cD S s q' F2 34) := by
          rw [bk_X3_readText_27]
          simp only [cb_eq, cb_ne, cb_lt, cb_ge, cb_gt, cb_le, cb_q, cb_qL, ri_s2, rl_s, rr_s, rv_s, bd_s, i10, cond_true, cond_false, gB1, hB1, gB2, hB2, gB3, hB3, gB4, hB4, gB5, hB5, fl, le, if_false, h2, i10_n, k2z, if_true, show ¬ ((3 : Int32) = 0) from by decide, cx, nI_1]
        rw [m0, m1, c1]
        exact (ih k2' a2 e2 (i + 1) r2 F2 q' (by omega) Z2 I' (by omega)).weak (fr.trans f2.L) (fF.trans g2)
      · have m1 : rv_GO rc_X5_text 27 [some (.ref 0), some (.int (nI i)), some (.int 1)] [] (mR A q' r') = rv_GO rc_X5_text 54 [some (.ref 0), some (.int (nI i)), some (.int 1)] [] (mR A q' r') := by
          rw [bk_X5_text_27]
          simp only [cb_eq, cb_ne, cb_lt, cb_ge, cb_gt, cb_le, cb_q, cb_qL, ri_s2, rl_s, rr_s, rv_s, bd_s, i10, cond_true, cond_false, lgR4, sgR4, lgR7, sgR7, lgR11, sgR11, lgR12, sgR12, lgR13, sgR13, lgR14, sgR14, lgR15, sgR15, lfR_1, lfR_2, lfR_3, lfR_5, lfR_6, lfR_8, lfR_9, lfR_10, i10_n, if_false, k1, q3, c3]
        by_cases c0 : k' = 0
        · left
          have z0 : nI k' = 0 := by rw [c0]; rfl
          have k1z := k1.trans z0
          have k2z := k2.trans z0
          refine ⟨i, upd r' 7 0, F', q', by omega, ?_, ?_, I', rfl, fr.S 0, fF⟩
          · rw [m0, m1, bk_X5_text_54]
            simp only [cb_eq, cb_ne, cb_lt, cb_ge, cb_gt, cb_le, cb_q, cb_qL, ri_s2, rl_s, rr_s, rv_s, bd_s, i10, cond_true, cond_false, lgR4, sgR4, lgR7, sgR7, lgR11, sgR11, lgR12, sgR12, lgR13, sgR13, lgR14, sgR14, lgR15, sgR15, lfR_1, lfR_2, lfR_3, lfR_5, lfR_6, lfR_8, lfR_9, lfR_10, i10_n, if_false, k1z, if_true, r_end_y]
          · rw [bk_X3_readText_27]
            simp only [cb_eq, cb_ne, cb_lt, cb_ge, cb_gt, cb_le, cb_q, cb_qL, ri_s2, rl_s, rr_s, rv_s, bd_s, i10, cond_true, cond_false, gB1, hB1, gB2, hB2, gB3, hB3, gB4, hB4, gB5, hB5, fl, le, if_false, h2, i10_n, k2z, if_true]
        · right
          refine ⟨a', upd (upd r' 15 (nI a')) 7 0, F', q', by omega, ?_, ?_, rfl, (frL_u fr _).S 0, fF⟩
          · rw [m0, m1, bk_X5_text_54]
            simp only [cb_eq, cb_ne, cb_lt, cb_ge, cb_gt, cb_le, cb_q, cb_qL, ri_s2, rl_s, rr_s, rv_s, bd_s, i10, cond_true, cond_false, lgR4, sgR4, lgR7, sgR7, lgR11, sgR11, lgR12, sgR12, lgR13, sgR13, lgR14, sgR14, lgR15, sgR15, lfR_1, lfR_2, lfR_3, lfR_5, lfR_6, lfR_8, lfR_9, lfR_10, i10_n, if_false, k1, q0, c0, r_fails, a12, if_true, r_end_n A q' (upd r' 15 (nI a')) (nI i) (a := a') rfl]
          · rw [bk_X3_readText_27]
            simp only [cb_eq, cb_ne, cb_lt, cb_ge, cb_gt, cb_le, cb_q, cb_qL, ri_s2, rl_s, rr_s, rv_s, bd_s, i10, cond_true, cond_false, gB1, hB1, gB2, hB2, gB3, hB3, gB4, hB4, gB5, hB5, fl, le, if_false, h2, i10_n, k2, q0, q3, c0, c3, e3']
    · have m0 : ((rv_ri (rv_EV 192 [.ref 0] (mR A q r))).bind fun q3 => rv_GO rc_X5_text 27 [some (.ref 0), some (.int (nI i)), some (.int q3.1)] [] q3.2) = some (some (.int ((-1) - nI a')), mR A (A 3) (upd r' 7 0)) := by
        rw [h1, ri_s2, bd_s, bk_X5_text_27]
        simp only [cb_eq, cb_ne, cb_lt, cb_ge, cb_gt, cb_le, cb_q, cb_qL, ri_s2, rl_s, rr_s, rv_s, bd_s, i10, cond_true, cond_false, if_true]
        rw [bk_X5_text_54]
        simp only [cb_eq, cb_ne, cb_lt, cb_ge, cb_gt, cb_le, cb_q, cb_qL, ri_s2, rl_s, rr_s, rv_s, bd_s, i10, cond_true, cond_false, if_true, r_end_n A p' r' (nI i) e15]
      rw [m0]
      by_cases le : n < i
      · have : a' = a := by omega
        subst this
        right
        refine ⟨a', upd r' 7 0, F, q, by omega, rfl, ?_, rfl, fr.S 0, frF_r F⟩
        rw [bk_X3_readText_27]
        simp only [cb_eq, cb_ne, cb_lt, cb_ge, cb_gt, cb_le, cb_q, cb_qL, ri_s2, rl_s, rr_s, rv_s, bd_s, i10, cond_true, cond_false, gB1, hB1, gB2, hB2, gB3, hB3, gB4, hB4, gB5, hB5, fl, nI_lt le (show i < 2 ^ 31 by omega), if_true, e3]
      · right
        have le : ¬ nI n < nI i := nI_nlt (by omega) (by omega)
        refine ⟨a', upd r' 7 0, F', q', by omega, rfl, ?_, rfl, fr.S 0, fF⟩
        rw [bk_X3_readText_27]
        simp only [cb_eq, cb_ne, cb_lt, cb_ge, cb_gt, cb_le, cb_q, cb_qL, ri_s2, rl_s, rr_s, rv_s, bd_s, i10, cond_true, cond_false, gB1, hB1, gB2, hB2, gB3, hB3, gB4, hB4, gB5, hB5, fl, le, if_false, h2, if_true, e3']
theorem d_take02 (S : Nat → Nat → Int32) (s q : Nat → Int32) (F : Nat → Nat → Int32) (rb : Nat) : rv_EV 9 [.ref (sp 0), .ref (sp 2)] (cD S s q F rb) = some (none, cD S q q F rb) := by
  rw [cD_back]
  unfold cR
  rw [k_take (upA (upA S 2 q) 0 s) (i := 2) (j := 0) (by decide) (by decide) (by decide) F rb]
  unfold cR
  rw [upA_upA, upA_n _ (by decide), upA_s]
  rw [cD_back]
  rfl
theorem dfD4 (S : Nat → Nat → Int32) (s q : Nat → Int32) (F : Nat → Nat → Int32) (rb : Nat) : rv_ldFR (cD S s q F rb) 0 3 4 = some 34 := rfl
theorem dfD5 (S : Nat → Nat → Int32) (s q : Nat → Int32) (F : Nat → Nat → Int32) (rb : Nat) : rv_ldFR (cD S s q F rb) 0 3 5 = some 35 := rfl
theorem dgD7 (S : Nat → Nat → Int32) (s q : Nat → Int32) (F : Nat → Nat → Int32) (rb : Nat) : rv_ldFI (cD S s q F rb) 0 3 7 = some (F 0 7) := Eq.trans rfl rfl
theorem dsD7 (S : Nat → Nat → Int32) (s q : Nat → Int32) (F : Nat → Nat → Int32) (rb : Nat) (x : Int32) : rv_stF (cD S s q F rb) 0 3 7 (.int x) = some (cD S s q (upB F 0 7 x) rb) := Eq.trans rfl rfl
theorem dlen (S : Nat → Nat → Int32) (s q : Nat → Int32) (F : Nat → Nat → Int32) (rb : Nat) : rv_len (cD S s q F rb) 34 = some (nI 120) := by
  have e : (cD S s q F rb)[34]? = some (.inl (1, .inl (rv_tab 120 (F 34)))) := rfl
  unfold rv_len
  rw [if_neg (by decide), e]
  show some (Int32.ofNat (rv_tab 120 (F 34)).length) = _
  rw [rv_tab_len]
  rfl
theorem min_120 {n : Nat} (h : n ≤ 120) : rv_min (nI n) (nI 120) = nI n := by
  unfold rv_min
  rw [if_neg (nI_nlt (by omega) (by decide))]
theorem rel_text {h : Nat} {A : Nat → Nat → Int32} {r r' : Nat → Int32} {S F F' : Nat → Nat → Int32} {s q' p' : Nat → Int32} (R : Rel h A r S F s) (I : Inv h q') (h7 : r' 7 = 0) (fr : ∀ i, i < 11 → ¬ i = 7 → r' i = r i) (fF : ∀ p, ¬ p = 35 → F' p = F p) : Rel h (upA A 3 s) r' (upA S 2 p') (upB F' 0 7 0) q' := by
  obtain ⟨h1, h2, h3, h4, h5⟩ := R
  have e0 : upB F' 0 7 0 0 8 = F 0 8 := by rw [upB_app, if_pos rfl, if_neg (by decide), fF 0 (by decide)]
  have en : ∀ p, ¬ p = 35 → ¬ p = 0 → upB F' 0 7 0 p = F p := fun p hp h0 => (upA_n F' h0 _).trans (fF p hp)
  refine ⟨I, ?_, ⟨0, by decide, h7, rfl, fun k hk => absurd hk (by omega)⟩, fun i hi => ?_, ?_⟩
  · unfold kepR at h2 ⊢
    rw [e0, fr 4 (by decide) (by decide), upA_n A (show ¬ 2 = 3 by decide), upA_n S (show ¬ 1 = 2 by decide)]
    exact h2
  · have := h4 i hi
    unfold sheR at this ⊢
    rw [en (sh i) (by unfold sh; omega) (by unfold sh; omega), en (sn i) (by unfold sn; omega) (by unfold sn; omega), upA_n A (show ¬ 7 = 3 by decide), upA_n A (show ¬ 8 = 3 by decide), upA_n A (show ¬ 9 = 3 by decide)]
    exact this
  · unfold fndR at h5 ⊢
    rw [en 37 (by decide) (by decide), upA_n A (show ¬ 5 = 3 by decide)]
    exact h5
theorem s_text {h : Nat} {A : Nat → Nat → Int32} {r : Nat → Int32} {S F : Nat → Nat → Int32} {rb : Nat} {s : Nat → Int32} (R : Rel h A r S F s) : Sim h 193 82 [] A r S F rb s := by
  have R0 := R
  obtain ⟨h1, h2, ⟨n, hn, h7, f7, hb⟩, h4, h5⟩ := R0
  have T : tpR n (upA A 3 s) (upB (upB F 35 1 (nI n)) 35 4 0) := ⟨hn, hb⟩
  obtain ⟨r1, F1, k1, a1, e1, g1, g2, g3, g4, g5, g6⟩ := tok_next (n := n) (A := upA A 3 s) (s0 := s) (S := S) (s := s) (q := s) (r := upd r 13 0) (F := upB (upB F 35 1 (nI n)) 35 4 0) T h7 rfl (e := 0) (Nat.zero_le _) rfl rfl
  have Z : TS n (upA A 3 s) k1 a1 e1 r1 F1 := ⟨tp_fr T g6, (g5 7 (by decide)).trans h7, g6.2, g3⟩
  have X := tx_loop (h := h) S s (n + 1) k1 a1 e1 1 r1 F1 s (by omega) Z h1 (by omega)
  have m0 : rv_EV 193 [.ref 0] (mR A s r) = ((rv_ri (rv_EV 192 [.ref 0] (mR (upA A 3 s) s r1))).bind fun q3 => rv_GO rc_X5_text 27 [some (.ref 0), some (.int (nI 1)), some (.int q3.1)] [] q3.2) := by
    rw [ev_X5_text _ _ (obR A s r)]
    simp only [cb_eq, cb_ne, cb_lt, cb_ge, cb_gt, cb_le, cb_q, cb_qL, ri_s2, rl_s, rr_s, rv_s, bd_s, i10, cond_true, cond_false, lgR4, sgR4, lgR7, sgR7, lgR11, sgR11, lgR12, sgR12, lgR13, sgR13, lgR14, sgR14, lgR15, sgR15, lfR_1, lfR_2, lfR_3, lfR_5, lfR_6, lfR_8, lfR_9, lfR_10, lfR, r_cp13, g1]
    rfl
  have c0 : rv_EV 38 [.ref 35, .ref 34, .int (nI n), .ref (sp 2)] (cD S s s F rb) = rv_GO rc_X3_readText 27 [some (.ref 35), none, none, some (.ref (sp 2)), some (.int (nI 1))] [] (cD S s s F1 34) := by
    rw [ev_X3_readText _ _ _ _ _ (obBD S s s F rb)]
    simp only [cb_eq, cb_ne, cb_lt, cb_ge, cb_gt, cb_le, cb_q, cb_qL, ri_s2, rl_s, rr_s, rv_s, bd_s, i10, cond_true, cond_false, gB1, hB1, gB2, hB2, gB3, hB3, gB4, hB4, gB5, hB5, hB0, dlen, min_120 hn, g2]
    rfl
  have fr1 : ∀ i, i < 11 → r1 i = r i := fun i hi => (g5 i (Or.inl hi)).trans (pk_un (by omega))
  have fF1 : ∀ p, ¬ p = 35 → F1 p = F p := fun p hp => (g6.1 p hp).trans ((upA_n _ hp _).trans (upA_n F hp _))
  rcases X with ⟨i, r', F', q', hi, x1, x2, x3, x4, x5, x6⟩ | ⟨i, r', F', q', hi, x1, x2, x4, x5, x6⟩
  · have lt : ¬ nI i < 0 := nI_pos (by omega)
    refine ⟨.int (nI i), upA A 3 s, r', upA S 2 q', upB F' 0 7 0, 34, q', m0.trans x1, ?_, rel_text R x3 x4 (fun i h1 h2 => (x5 i h1 h2).trans (fr1 i h1)) (fun p hp => (x6.1 p hp).trans (fF1 p hp)), ⟨_, rfl⟩⟩
    rw [cR_D, ev_X4_text _ _ (obE S s (S 2) F rb)]
    simp only [cb_eq, cb_ne, cb_lt, cb_ge, cb_gt, cb_le, cb_q, cb_qL, ri_s2, rl_s, rr_s, rv_s, bd_s, i10, cond_true, cond_false, dfD0, dfD2, d_take, dfD4, dfD5, dgD7, f7, c0, x2, dsD7, lt, if_false, d_take02]
    rw [cD_back]
  · have lt : (-1) - nI i < 0 := by
      rw [Int32.lt_iff_toInt_lt]
      have e : (-1 : Int32) - nI i = Int32.ofInt (-1 - (i : Int)) := by
        rw [show (-1 : Int32) = Int32.ofInt (-1) from rfl, show nI i = Int32.ofInt (i : Int) from rfl, ← Int32.ofInt_sub]
      rw [e, Int32.toInt_ofInt_of_le (by omega) (by omega)]
      show -1 - (i : Int) < 0
      omega
    refine ⟨.int ((-1) - nI i), upA A 3 s, r', upA S 2 q', upB F' 0 7 0, 34, s, ?_, ?_, rel_text R h1 x4 (fun i h1 h2 => (x5 i h1 h2).trans (fr1 i h1)) (fun p hp => (x6.1 p hp).trans (fF1 p hp)), ⟨_, rfl⟩⟩
    · rw [m0, x1, upA_s]
    rw [cR_D, ev_X4_text _ _ (obE S s (S 2) F rb)]
    simp only [cb_eq, cb_ne, cb_lt, cb_ge, cb_gt, cb_le, cb_q, cb_qL, ri_s2, rl_s, rr_s, rv_s, bd_s, i10, cond_true, cond_false, dfD0, dfD2, d_take, dfD4, dfD5, dgD7, f7, c0, x2, dsD7, lt, if_true]
    rw [cD_back]
