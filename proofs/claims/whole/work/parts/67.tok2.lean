theorem bd_s {α β : Type} (a : α) (f : α → Option β) : (some a).bind f = f a := Eq.trans rfl rfl
theorem ri_s2 (x : Int32) (w : rv_W) : rv_ri (some (some (.int x), w)) = some (x, w) := Eq.trans rfl rfl
/-! THE NEXT TOKEN -/
theorem tok_next {n : Nat} {A : Nat → Nat → Int32} {s0 : Nat → Int32} {S : Nat → Nat → Int32} {s q : Nat → Int32} {r : Nat → Int32} {F : Nat → Nat → Int32} (T : tpR n A F) (h7 : r 7 = nI n) (h1 : F 35 1 = nI n) {e : Nat} (he : e ≤ n) (h13 : r 13 = nI e) (h4 : F 35 4 = nI e) : ∃ r' F' k a' e', rv_EV 177 [.ref 0] (mR A s0 r) = some (none, mR A s0 r') ∧ rv_EV 47 [.ref 35] (cD S s q F 34) = some (none, cD S s q F' 34) ∧ Tok n k a' e' r' F' ∧ e ≤ a' ∧ frR r r' ∧ frF F F' := by
  have hn := T.1
  have L : ∀ (d a : Nat) (r : Nat → Int32) (F : Nat → Nat → Int32), a + d = n → tpR n A F → r 7 = nI n → F 35 1 = nI n → r 12 = nI a → F 35 3 = nI a → ∃ r' F' k a' e', rv_GO rc_X5_nextToken 8 [some (.ref 0), none] [] (mR A s0 r) = some (none, mR A s0 r') ∧ rv_GO rc_X3_readToken 8 [some (.ref 35), none] [] (cD S s q F 34) = some (none, cD S s q F' 34) ∧ Tok n k a' e' r' F' ∧ a ≤ a' ∧ frR r r' ∧ frF F F' := by
    intro d
    induction d with
    | zero =>
      intro a r F ha T h7 h1 h12 h3
      have ha : a = n := by omega
      subst ha
      have b1 := bt_n A (Nat.le_refl a)
      refine ⟨upd (upd (upd (upd r 13 (nI a)) 11 0) 14 0) 13 (nI a), upB (upB F 35 4 (nI a)) 35 2 0, 0, a, a, ?_, ?_, ⟨⟨rfl, rfl⟩, ⟨h12, h3⟩, ⟨rfl, rfl⟩, by decide, Nat.le_refl _, Nat.le_refl _, fun q => absurd q (by decide), fun q => absurd rfl q⟩, Nat.le_refl _, frR_u (frR_u (frR_u (frR_u (frR_r r) (by decide) _) (by decide) _) (by decide) _) (by decide) _, frF_u (frF_u (frF_r F) (by decide) _) (by decide) _⟩
      · rw [bk_X5_nextToken_8]
        simp only [cb_eq, cb_ne, cb_lt, cb_ge, cb_gt, cb_le, cb_q, cb_qL, ri_s2, rl_s, rr_s, rv_s, bd_s, i10, cond_true, cond_false, lgR4, sgR4, lgR7, sgR7, lgR11, sgR11, lgR12, sgR12, lgR13, sgR13, lgR14, sgR14, lgR15, sgR15, lfR_1, lfR_2, lfR_3, lfR_5, lfR_6, lfR_8, lfR_9, lfR_10, h12, r_byte hn A s0 r h7 (show a < 1000 by omega), b1, show ¬ (-1 : Int32) = 32 from by decide, if_false]
        simp only [cb_eq, cb_ne, cb_lt, cb_ge, cb_gt, cb_le, cb_q, cb_qL, ri_s2, rl_s, rr_s, rv_s, bd_s, i10, cond_true, cond_false, lgR4, sgR4, lgR7, sgR7, lgR11, sgR11, lgR12, sgR12, lgR13, sgR13, lgR14, sgR14, lgR15, sgR15, lfR_1, lfR_2, lfR_3, lfR_5, lfR_6, lfR_8, lfR_9, lfR_10, upd_app, Nat.reduceEqDiff, ↓reduceIte, h12, r_byte hn A s0 (upd r 13 (nI a)) h7 (show a < 1000 by omega), b1, show ¬ (0 : Int32) ≤ -1 from by decide, if_false]
        rw [bk_X5_nextToken_101]
        simp only [cb_eq, cb_ne, cb_lt, cb_ge, cb_gt, cb_le, cb_q, cb_qL, ri_s2, rl_s, rr_s, rv_s, bd_s, i10, cond_true, cond_false, lgR4, sgR4, lgR7, sgR7, lgR11, sgR11, lgR12, sgR12, lgR13, sgR13, lgR14, sgR14, lgR15, sgR15, lfR_1, lfR_2, lfR_3, lfR_5, lfR_6, lfR_8, lfR_9, lfR_10, upd_app, Nat.reduceEqDiff, ↓reduceIte, show ¬ (0 : Int32) = 1 from by decide, if_false]
        rw [bk_X5_nextToken_136]
        simp only [cb_eq, cb_ne, cb_lt, cb_ge, cb_gt, cb_le, cb_q, cb_qL, ri_s2, rl_s, rr_s, rv_s, bd_s, i10, cond_true, cond_false, lgR4, sgR4, lgR7, sgR7, lgR11, sgR11, lgR12, sgR12, lgR13, sgR13, lgR14, sgR14, lgR15, sgR15, lfR_1, lfR_2, lfR_3, lfR_5, lfR_6, lfR_8, lfR_9, lfR_10, upd_app, Nat.reduceEqDiff, ↓reduceIte, show ¬ (0 : Int32) = 2 from by decide, if_false]
        rw [bk_X5_nextToken_211]
        simp only [cb_eq, cb_ne, cb_lt, cb_ge, cb_gt, cb_le, cb_q, cb_qL, ri_s2, rl_s, rr_s, rv_s, bd_s, i10, cond_true, cond_false, lgR4, sgR4, lgR7, sgR7, lgR11, sgR11, lgR12, sgR12, lgR13, sgR13, lgR14, sgR14, lgR15, sgR15, lfR_1, lfR_2, lfR_3, lfR_5, lfR_6, lfR_8, lfR_9, lfR_10, upd_app, Nat.reduceEqDiff, ↓reduceIte, show (0 : Int32) ≤ 2 from by decide, if_true, add_0]
      · rw [bk_X3_readToken_8]
        simp only [cb_eq, cb_ne, cb_lt, cb_ge, cb_gt, cb_le, cb_q, cb_qL, ri_s2, rl_s, rr_s, rv_s, bd_s, i10, cond_true, cond_false, gB1, hB1, gB2, hB2, gB3, hB3, gB4, hB4, gB5, hB5, h3, h1, Int32.le_refl, if_true]
        rw [bk_X3_readToken_45]
        have h1' : upB F 35 4 (nI a) 35 1 = nI a := (upB_app F 35 4 (nI a) 35 1).trans h1
        have h3' : upB F 35 4 (nI a) 35 3 = nI a := (upB_app F 35 4 (nI a) 35 3).trans h3
        have cb := c_byte hn S s q (upB F 35 4 (nI a)) 34 rfl h1' (show a < 1000 by omega)
        simp only [cb_eq, cb_ne, cb_lt, cb_ge, cb_gt, cb_le, cb_q, cb_qL, ri_s2, rl_s, rr_s, rv_s, bd_s, i10, cond_true, cond_false, gB1, hB1, gB2, hB2, gB3, hB3, gB4, hB4, gB5, hB5, h3, h3', h1', cb, show (nI a < nI a) = False from propext ⟨fun f => Int32.lt_irrefl f, False.elim⟩, if_false]
    | succ d ih =>
      intro a r F ha T h7 h1 h12 h3
      have hlt : a < n := by omega
      have cb := c_byte hn S s q F 34 rfl h1 (show a < 1000 by omega)
      by_cases sp : bt A n a = 32
      · obtain ⟨r', F', k, a', e', g1, g2, g3, g4, g5, g6⟩ := ih (a + 1) (upd r 12 (nI (a + 1))) (upB F 35 3 (nI (a + 1))) (by omega) (tp_fr T (frF_u (frF_r F) (by decide) _)) h7 h1 rfl rfl
        refine ⟨r', F', k, a', e', ?_, ?_, g3, by omega, (frR_u (frR_r r) (by decide) _).trans g5, (frF_u (frF_r F) (by decide) _).trans g6⟩
        · rw [bk_X5_nextToken_8]
          simp only [cb_eq, cb_ne, cb_lt, cb_ge, cb_gt, cb_le, cb_q, cb_qL, ri_s2, rl_s, rr_s, rv_s, bd_s, i10, cond_true, cond_false, lgR4, sgR4, lgR7, sgR7, lgR11, sgR11, lgR12, sgR12, lgR13, sgR13, lgR14, sgR14, lgR15, sgR15, lfR_1, lfR_2, lfR_3, lfR_5, lfR_6, lfR_8, lfR_9, lfR_10, h12, r_byte hn A s0 r h7 (show a < 1000 by omega), sp, if_true, nI_1]
          exact g1
        · rw [bk_X3_readToken_8]
          simp only [cb_eq, cb_ne, cb_lt, cb_ge, cb_gt, cb_le, cb_q, cb_qL, ri_s2, rl_s, rr_s, rv_s, bd_s, i10, cond_true, cond_false, gB1, hB1, gB2, hB2, gB3, hB3, gB4, hB4, gB5, hB5, h3, h1, nI_ge hlt (show n < 2 ^ 31 by omega), if_false, cb, by_32 T, sp, if_true, nI_1]
          exact g2
      · have nn := bt_nn T hlt
        have m0 : rv_GO rc_X5_nextToken 8 [some (.ref 0), none] [] (mR A s0 r) = (if ¬ (97 ≤ bt A n a ∧ bt A n a ≤ 122) then (if ¬ (48 ≤ bt A n a ∧ bt A n a ≤ 57) then (if bt A n a = 59 then rv_GO rc_X5_nextToken 101 [some (.ref 0), none] [] (mR A s0 (upd (upd (upd r 13 (nI a)) 11 3) 14 0)) else rv_GO rc_X5_nextToken 101 [some (.ref 0), none] [] (mR A s0 (upd (upd (upd r 13 (nI a)) 11 4) 14 0))) else rv_GO rc_X5_nextToken 101 [some (.ref 0), none] [] (mR A s0 (upd (upd (upd r 13 (nI a)) 11 2) 14 0))) else rv_GO rc_X5_nextToken 101 [some (.ref 0), none] [] (mR A s0 (upd (upd (upd r 13 (nI a)) 11 1) 14 0))) := by
          rw [bk_X5_nextToken_8]
          simp only [cb_eq, cb_ne, cb_lt, cb_ge, cb_gt, cb_le, cb_q, cb_qL, ri_s2, rl_s, rr_s, rv_s, bd_s, i10, cond_true, cond_false, lgR4, sgR4, lgR7, sgR7, lgR11, sgR11, lgR12, sgR12, lgR13, sgR13, lgR14, sgR14, lgR15, sgR15, lfR_1, lfR_2, lfR_3, lfR_5, lfR_6, lfR_8, lfR_9, lfR_10, h12, r_byte hn A s0 r h7 (show a < 1000 by omega), sp, if_false]
          simp only [cb_eq, cb_ne, cb_lt, cb_ge, cb_gt, cb_le, cb_q, cb_qL, ri_s2, rl_s, rr_s, rv_s, bd_s, i10, cond_true, cond_false, lgR4, sgR4, lgR7, sgR7, lgR11, sgR11, lgR12, sgR12, lgR13, sgR13, lgR14, sgR14, lgR15, sgR15, lfR_1, lfR_2, lfR_3, lfR_5, lfR_6, lfR_8, lfR_9, lfR_10, upd_app, Nat.reduceEqDiff, ↓reduceIte, h12, r_byte hn A s0 (upd r 13 (nI a)) h7 (show a < 1000 by omega), nn, if_true, m_isLetter, m_isDigit]
        have c0 : rv_GO rc_X3_readToken 8 [some (.ref 35), none] [] (cD S s q F 34) = (if ¬ (97 ≤ bt A n a ∧ bt A n a ≤ 122) then (if ¬ (48 ≤ bt A n a ∧ bt A n a ≤ 57) then (if bt A n a = 59 then some (none, cD S s q (upB (upB (upB F 35 4 (nI a)) 35 2 3) 35 4 (nI (a + 1))) 34) else some (none, cD S s q (upB (upB (upB F 35 4 (nI a)) 35 2 4) 35 4 (nI (a + 1))) 34)) else rv_GO rc_X3_readToken 148 [some (.ref 35), none] [] (cD S s q (upB (upB (upB F 35 4 (nI a)) 35 2 2) 35 5 0) 34)) else rv_GO rc_X3_readToken 93 [some (.ref 35), none] [] (cD S s q (upB (upB F 35 4 (nI a)) 35 2 1) 34)) := by
          rw [bk_X3_readToken_8]
          simp only [cb_eq, cb_ne, cb_lt, cb_ge, cb_gt, cb_le, cb_q, cb_qL, ri_s2, rl_s, rr_s, rv_s, bd_s, i10, cond_true, cond_false, gB1, hB1, gB2, hB2, gB3, hB3, gB4, hB4, gB5, hB5, h3, h1, nI_ge hlt (show n < 2 ^ 31 by omega), if_false, cb, by_32 T, sp]
          rw [bk_X3_readToken_45]
          have cb2 : ∀ x, rv_EV 48 [.ref 35, .int (nI a)] (cD S s q (upB F 35 4 x) 34) = some (some (.int (ct F n a)), cD S s q (upB F 35 4 x) 34) := fun x => c_byte hn S s q (upB F 35 4 x) 34 rfl h1 (show a < 1000 by omega)
          simp only [cb_eq, cb_ne, cb_lt, cb_ge, cb_gt, cb_le, cb_q, cb_qL, ri_s2, rl_s, rr_s, rv_s, bd_s, i10, cond_true, cond_false, gB1, hB1, gB2, hB2, gB3, hB3, gB4, hB4, gB5, hB5, h3, upB_app, Nat.reduceEqDiff, ↓reduceIte, h1, cb2, nI_lt hlt (show n < 2 ^ 31 by omega), if_true, c_isLetter, c_isDigit, by_let T, by_dig T, by_59 T, nI_1]
        by_cases l : 97 ≤ bt A n a ∧ bt A n a ≤ 122
        · rw [if_neg (fun f => f l)] at m0 c0
          obtain ⟨r', F', e', g1, g2, g3, g4, g5, g6, g7, g8, g9, g10⟩ := tok_let (s0 := s0) (S := S) (s := s) (q := q) (d + 1) a (upd (upd (upd r 13 (nI a)) 11 1) 14 0) (upB (upB F 35 4 (nI a)) 35 2 1) (by omega) (tp_fr T (frF_u (frF_u (frF_r F) (by decide) _) (by decide) _)) h7 h1 rfl rfl rfl
          refine ⟨r', F', 1, a, e', m0.trans g1, c0.trans g2, ⟨⟨?_, ?_⟩, ⟨?_, ?_⟩, ⟨g3, g4⟩, by decide, g5, g6, fun q => absurd q (by decide), fun _ => g10 l⟩, Nat.le_refl _, fun i hi => ?_, fun p hp => ?_, ?_⟩
          · exact g7 11 (by decide)
          · exact g9 2 (by decide)
          · exact (g7 12 (by decide)).trans h12
          · exact (g9 3 (by decide)).trans h3
          · rw [g7 i (by omega), pk_un (by omega), pk_un (by omega), pk_un (by omega)]
          · rw [g8 p hp]; exact (upA_n _ hp _).trans (upA_n F hp _)
          · exact g9 1 (by decide)
        · rw [if_pos l] at m0 c0
          by_cases dg : 48 ≤ bt A n a ∧ bt A n a ≤ 57
          · rw [if_neg (fun f => f dg)] at m0 c0
            rw [bk_X5_nextToken_101] at m0
            simp only [cb_eq, cb_ne, cb_lt, cb_ge, cb_gt, cb_le, cb_q, cb_qL, ri_s2, rl_s, rr_s, rv_s, bd_s, i10, cond_true, cond_false, lgR4, sgR4, lgR7, sgR7, lgR11, sgR11, lgR12, sgR12, lgR13, sgR13, lgR14, sgR14, lgR15, sgR15, lfR_1, lfR_2, lfR_3, lfR_5, lfR_6, lfR_8, lfR_9, lfR_10, upd_app, Nat.reduceEqDiff, ↓reduceIte, show ¬ (2 : Int32) = 1 from by decide, if_false] at m0
            obtain ⟨r', F', e', g1, g2, g3, g4, g5, g6, g7, g8, g9, g10, g11⟩ := tok_dig (s0 := s0) (S := S) (s := s) (q := q) (d + 1) a (upd (upd (upd r 13 (nI a)) 11 2) 14 0) (upB (upB (upB F 35 4 (nI a)) 35 2 2) 35 5 0) (by omega) (tp_fr T (frF_u (frF_u (frF_u (frF_r F) (by decide) _) (by decide) _) (by decide) _)) h7 h1 rfl rfl rfl (Or.inl ⟨0, by decide, rfl, rfl⟩)
            refine ⟨r', F', 2, a, e', m0.trans g1, c0.trans g2, ⟨⟨?_, ?_⟩, ⟨?_, ?_⟩, ⟨g3, g4⟩, by decide, g5, g6, fun _ => g11, fun _ => g10 dg⟩, Nat.le_refl _, fun i hi => ?_, fun p hp => ?_, ?_⟩
            · exact g7 11 (by decide) (by decide)
            · exact g9 2 (by decide) (by decide)
            · exact (g7 12 (by decide) (by decide)).trans h12
            · exact (g9 3 (by decide) (by decide)).trans h3
            · rw [g7 i (by omega) (by omega), pk_un (by omega), pk_un (by omega), pk_un (by omega)]
            · rw [g8 p hp]; exact (upA_n _ hp _).trans ((upA_n _ hp _).trans (upA_n F hp _))
            · exact g9 1 (by decide) (by decide)
          · rw [if_pos dg] at m0 c0
            have fin : ∀ (k : Nat), (k = 3 ∨ k = 4) → rv_GO rc_X5_nextToken 101 [some (.ref 0), none] [] (mR A s0 (upd (upd (upd r 13 (nI a)) 11 (nI k)) 14 0)) = some (none, mR A s0 (upd (upd (upd (upd r 13 (nI a)) 11 (nI k)) 14 0) 13 (nI (a + 1)))) := by
              intro k hk
              have k1 : ¬ nI k = 1 := by rcases hk with rfl | rfl <;> decide
              have k2 : ¬ nI k = 2 := by rcases hk with rfl | rfl <;> decide
              have k3 : ¬ nI k ≤ 2 := by rcases hk with rfl | rfl <;> decide
              rw [bk_X5_nextToken_101]
              simp only [cb_eq, cb_ne, cb_lt, cb_ge, cb_gt, cb_le, cb_q, cb_qL, ri_s2, rl_s, rr_s, rv_s, bd_s, i10, cond_true, cond_false, lgR4, sgR4, lgR7, sgR7, lgR11, sgR11, lgR12, sgR12, lgR13, sgR13, lgR14, sgR14, lgR15, sgR15, lfR_1, lfR_2, lfR_3, lfR_5, lfR_6, lfR_8, lfR_9, lfR_10, upd_app, Nat.reduceEqDiff, ↓reduceIte, k1, if_false]
              rw [bk_X5_nextToken_136]
              simp only [cb_eq, cb_ne, cb_lt, cb_ge, cb_gt, cb_le, cb_q, cb_qL, ri_s2, rl_s, rr_s, rv_s, bd_s, i10, cond_true, cond_false, lgR4, sgR4, lgR7, sgR7, lgR11, sgR11, lgR12, sgR12, lgR13, sgR13, lgR14, sgR14, lgR15, sgR15, lfR_1, lfR_2, lfR_3, lfR_5, lfR_6, lfR_8, lfR_9, lfR_10, upd_app, Nat.reduceEqDiff, ↓reduceIte, k2, if_false]
              rw [bk_X5_nextToken_211]
              simp only [cb_eq, cb_ne, cb_lt, cb_ge, cb_gt, cb_le, cb_q, cb_qL, ri_s2, rl_s, rr_s, rv_s, bd_s, i10, cond_true, cond_false, lgR4, sgR4, lgR7, sgR7, lgR11, sgR11, lgR12, sgR12, lgR13, sgR13, lgR14, sgR14, lgR15, sgR15, lfR_1, lfR_2, lfR_3, lfR_5, lfR_6, lfR_8, lfR_9, lfR_10, upd_app, Nat.reduceEqDiff, ↓reduceIte, k3, if_false, nI_1]
            have both : ∀ (k : Nat), (k = 3 ∨ k = 4) → rv_GO rc_X5_nextToken 8 [some (.ref 0), none] [] (mR A s0 r) = rv_GO rc_X5_nextToken 101 [some (.ref 0), none] [] (mR A s0 (upd (upd (upd r 13 (nI a)) 11 (nI k)) 14 0)) → rv_GO rc_X3_readToken 8 [some (.ref 35), none] [] (cD S s q F 34) = some (none, cD S s q (upB (upB (upB F 35 4 (nI a)) 35 2 (nI k)) 35 4 (nI (a + 1))) 34) → ∃ r' F' k a' e', rv_GO rc_X5_nextToken 8 [some (.ref 0), none] [] (mR A s0 r) = some (none, mR A s0 r') ∧ rv_GO rc_X3_readToken 8 [some (.ref 35), none] [] (cD S s q F 34) = some (none, cD S s q F' 34) ∧ Tok n k a' e' r' F' ∧ a ≤ a' ∧ frR r r' ∧ frF F F' := by
              intro k hk hm hc
              refine ⟨_, _, k, a, a + 1, hm.trans (fin k hk), hc, ⟨⟨rfl, rfl⟩, ⟨h12, h3⟩, ⟨rfl, rfl⟩, by omega, by omega, by omega, fun q => by omega, fun _ => by omega⟩, Nat.le_refl _, frR_u (frR_u (frR_u (frR_u (frR_r r) (by decide) _) (by decide) _) (by decide) _) (by decide) _, frF_u (frF_u (frF_u (frF_r F) (by decide) _) (by decide) _) (by decide) _⟩
            by_cases sm : bt A n a = 59
            · rw [if_pos sm, show (3 : Int32) = nI 3 from rfl] at m0 c0
              exact both 3 (Or.inl rfl) m0 c0
            · rw [if_neg sm, show (4 : Int32) = nI 4 from rfl] at m0 c0
              exact both 4 (Or.inr rfl) m0 c0
  obtain ⟨r', F', k, a', e', g1, g2, g3, g4, g5, g6⟩ := L (n - e) e (upd r 12 (nI e)) (upB F 35 3 (nI e)) (by omega) (tp_fr T (frF_u (frF_r F) (by decide) _)) h7 h1 rfl rfl
  refine ⟨r', F', k, a', e', ?_, ?_, g3, g4, (frR_u (frR_r r) (by decide) _).trans g5, (frF_u (frF_r F) (by decide) _).trans g6⟩
  · rw [ev_X5_nextToken _ _ (obR A s0 r)]
    simp only [cb_eq, cb_ne, cb_lt, cb_ge, cb_gt, cb_le, cb_q, cb_qL, ri_s2, rl_s, rr_s, rv_s, bd_s, i10, cond_true, cond_false, lgR4, sgR4, lgR7, sgR7, lgR11, sgR11, lgR12, sgR12, lgR13, sgR13, lgR14, sgR14, lgR15, sgR15, lfR_1, lfR_2, lfR_3, lfR_5, lfR_6, lfR_8, lfR_9, lfR_10, h13]
    exact g1
  · rw [ev_X3_readToken _ _ (obBD S s q F 34)]
    simp only [cb_eq, cb_ne, cb_lt, cb_ge, cb_gt, cb_le, cb_q, cb_qL, ri_s2, rl_s, rr_s, rv_s, bd_s, i10, cond_true, cond_false, gB1, hB1, gB2, hB2, gB3, hB3, gB4, hB4, gB5, hB5, h4]
    exact g2
