/-! NUMBERS AND WORDS, on both sides -/
def TS (n : Nat) (A : Nat → Nat → Int32) (k a e : Nat) (r : Nat → Int32) (F : Nat → Nat → Int32) : Prop := tpR n A F ∧ r 7 = nI n ∧ F 35 1 = nI n ∧ Tok n k a e r F
theorem ts_next {n k a e : Nat} {A : Nat → Nat → Int32} {r : Nat → Int32} {F : Nat → Nat → Int32} (Z : TS n A k a e r F) (s0 : Nat → Int32) (S : Nat → Nat → Int32) (s q : Nat → Int32) : ∃ r' F' k' a' e', rv_EV 177 [.ref 0] (mR A s0 r) = some (none, mR A s0 r') ∧ rv_EV 47 [.ref 35] (cD S s q F 34) = some (none, cD S s q F' 34) ∧ TS n A k' a' e' r' F' ∧ e ≤ a' ∧ frR r r' ∧ frF F F' := by
  obtain ⟨T, h7, h1, K⟩ := Z
  obtain ⟨r', F', k', a', e', g1, g2, g3, g4, g5, g6⟩ := tok_next (s0 := s0) (S := S) (s := s) (q := q) T h7 h1 K.2.2.2.2.2.1 K.2.2.1.1 K.2.2.1.2
  exact ⟨r', F', k', a', e', g1, g2, ⟨tp_fr T g6, (g5 7 (by decide)).trans h7, g6.2.trans h1, g3⟩, g4, g5, g6⟩
/-! numbers -/
def NB (k : Nat) (r : Nat → Int32) (m : Nat) : Prop := k = 2 ∧ ∃ v, v ≤ m ∧ r 14 = nI v
theorem r_fails (A : Nat → Nat → Int32) (s r : Nat → Int32) : rv_EV 180 [.ref 0] (mR A s r) = some (some (.int 0), mR A s (upd r 15 (r 12))) := by
  rw [ev_X5_fails _ _ (obR A s r)]
  simp only [cb_eq, cb_ne, cb_lt, cb_ge, cb_gt, cb_le, cb_q, cb_qL, ri_s2, rl_s, rr_s, rv_s, bd_s, i10, cond_true, cond_false, lgR4, sgR4, lgR7, sgR7, lgR11, sgR11, lgR12, sgR12, lgR13, sgR13, lgR14, sgR14, lgR15, sgR15, lfR_1, lfR_2, lfR_3, lfR_5, lfR_6, lfR_8, lfR_9, lfR_10]
theorem r_num_y {n k a e : Nat} {A : Nat → Nat → Int32} {r : Nat → Int32} {F : Nat → Nat → Int32} (Z : TS n A k a e r F) (s : Nat → Int32) {m v : Nat} (hm : m ≤ 9999) (hv : v ≤ m) (hk : k = 2) (e14 : r 14 = nI v) : rv_EV 184 [.ref 0, .int 0, .int (nI m)] (mR A s r) = some (some (.int 1), mR A s r) := by
  subst hk
  have k2 : r 11 = 2 := Z.2.2.2.1.1
  have l1 : (0 : Int32) ≤ nI v := nI_pos' (by omega)
  have l2 : nI v ≤ nI m := nI_le hv (by omega)
  rw [ev_X5_isNumber _ _ _ _ (obR A s r)]
  simp only [cb_eq, cb_ne, cb_lt, cb_ge, cb_gt, cb_le, cb_q, cb_qL, ri_s2, rl_s, rr_s, rv_s, bd_s, i10, cond_true, cond_false, lgR4, sgR4, lgR7, sgR7, lgR11, sgR11, lgR12, sgR12, lgR13, sgR13, lgR14, sgR14, lgR15, sgR15, lfR_1, lfR_2, lfR_3, lfR_5, lfR_6, lfR_8, lfR_9, lfR_10, k2, e14, m_isIn, if_true, l1, l2, and_self, not_true_eq_false, i10_n, if_false]
theorem num_big {n k a e : Nat} {A : Nat → Nat → Int32} {r : Nat → Int32} {F : Nat → Nat → Int32} (Z : TS n A k a e r F) {m : Nat} (hm : m ≤ 9999) (b : ¬ NB k r m) (hk : k = 2) : ∃ v, m < v ∧ v ≤ 99999 ∧ r 14 = nI v ∧ ((F 35 5 = nI v) ∨ F 35 5 = 10000) := by
  obtain ⟨-, -, -, ⟨-, -, -, -, -, -, hv, -⟩⟩ := Z
  rcases hv hk with ⟨v, h1, h2, h3⟩ | ⟨⟨v, h1, h2, h3⟩, h4⟩
  · refine ⟨v, ?_, by omega, h2, Or.inl h3⟩
    rcases Nat.lt_or_ge m v with q | q
    · exact q
    · exact absurd ⟨hk, v, q, h2⟩ b
  · exact ⟨v, by omega, h1, h3, Or.inr h4⟩
theorem r_num_n {n k a e : Nat} {A : Nat → Nat → Int32} {r : Nat → Int32} {F : Nat → Nat → Int32} (Z : TS n A k a e r F) (s : Nat → Int32) {m : Nat} (hm : m ≤ 9999) (b : ¬ NB k r m) : rv_EV 184 [.ref 0, .int 0, .int (nI m)] (mR A s r) = some (some (.int 0), mR A s (upd r 15 (nI a))) := by
  have big := num_big Z hm b
  obtain ⟨-, -, -, ⟨⟨k1, -⟩, ⟨a1, -⟩, -, hk, -, -, -, -⟩⟩ := Z
  have f : rv_GO rc_X5_isNumber 23 [some (.ref 0), none, none] [] (mR A s r) = some (some (.int 0), mR A s (upd r 15 (nI a))) := by
    rw [bk_X5_isNumber_23, r_fails, a1]
    simp only [cb_eq, cb_ne, cb_lt, cb_ge, cb_gt, cb_le, cb_q, cb_qL, ri_s2, rl_s, rr_s, rv_s, bd_s, i10, cond_true, cond_false, if_true]
  have k2 : (nI k = 2) = (k = 2) := propext (nI_eq (a := k) (b := 2) (by omega) (by decide))
  rw [ev_X5_isNumber _ _ _ _ (obR A s r)]
  simp only [cb_eq, cb_ne, cb_lt, cb_ge, cb_gt, cb_le, cb_q, cb_qL, ri_s2, rl_s, rr_s, rv_s, bd_s, i10, cond_true, cond_false, lgR4, sgR4, lgR7, sgR7, lgR11, sgR11, lgR12, sgR12, lgR13, sgR13, lgR14, sgR14, lgR15, sgR15, lfR_1, lfR_2, lfR_3, lfR_5, lfR_6, lfR_8, lfR_9, lfR_10, k1, k2, m_isIn, f]
  by_cases e2 : k = 2
  · obtain ⟨v, h1, h2, h3, -⟩ := big e2
    have nl : ¬ nI v ≤ nI m := nI_ge h1 (by omega)
    rw [if_pos e2, h3]
    simp only [nl, and_false, not_false_eq_true, if_true]
  · rw [if_neg e2]
theorem c_num_y {n k a e : Nat} {A : Nat → Nat → Int32} {r : Nat → Int32} {F : Nat → Nat → Int32} (Z : TS n A k a e r F) {m v : Nat} (hm : m ≤ 9999) (hv : v ≤ m) (hk : k = 2) (e14 : r 14 = nI v) {S : Nat → Nat → Int32} {s q : Nat → Int32} {F' : Nat → Nat → Int32} (nx : rv_EV 47 [.ref 35] (cD S s q F 34) = some (none, cD S s q F' 34)) : rv_EV 46 [.ref 35, .int (nI m)] (cD S s q F 34) = some (some (.int (nI v)), cD S s q F' 34) := by
  obtain ⟨-, -, -, ⟨⟨-, k1⟩, -, -, -, -, -, hvr, -⟩⟩ := Z
  have f5 : F 35 5 = nI v := by
    rcases hvr hk with ⟨u, h1, h2, h3⟩ | ⟨⟨u, h1, h2, h3⟩, h4⟩
    · rw [h3, ← h2, e14]
    · have := (nI_eq (a := u) (b := v) (by omega) (by omega)).mp (h3.symm.trans e14)
      omega
  subst hk
  have k2 : F 35 2 = 2 := k1
  have l2 : nI v ≤ nI m := nI_le hv (by omega)
  rw [ev_X3_passNumber _ _ _ (obBD S s q F 34)]
  simp only [cb_eq, cb_ne, cb_lt, cb_ge, cb_gt, cb_le, cb_q, cb_qL, ri_s2, rl_s, rr_s, rv_s, bd_s, i10, cond_true, cond_false, gB1, hB1, gB2, hB2, gB3, hB3, gB4, hB4, gB5, hB5, k2, f5, l2, if_true, nx]
theorem c_num_n {n k a e : Nat} {A : Nat → Nat → Int32} {r : Nat → Int32} {F : Nat → Nat → Int32} (Z : TS n A k a e r F) {m : Nat} (hm : m ≤ 9999) (b : ¬ NB k r m) (S : Nat → Nat → Int32) (s q : Nat → Int32) : rv_EV 46 [.ref 35, .int (nI m)] (cD S s q F 34) = some (some (.int (-1)), cD S s q F 34) := by
  have big := num_big Z hm b
  obtain ⟨-, -, -, ⟨⟨-, k1⟩, -, -, hk, -, -, -, -⟩⟩ := Z
  have k2 : (nI k = 2) = (k = 2) := propext (nI_eq (a := k) (b := 2) (by omega) (by decide))
  rw [ev_X3_passNumber _ _ _ (obBD S s q F 34)]
  simp only [cb_eq, cb_ne, cb_lt, cb_ge, cb_gt, cb_le, cb_q, cb_qL, ri_s2, rl_s, rr_s, rv_s, bd_s, i10, cond_true, cond_false, gB1, hB1, gB2, hB2, gB3, hB3, gB4, hB4, gB5, hB5, k1, k2]
  by_cases e2 : k = 2
  · obtain ⟨v, h1, h2, -, h4⟩ := big e2
    have nl : ¬ F 35 5 ≤ nI m := by
      rcases h4 with h4 | h4
      · rw [h4]; exact nI_ge h1 (by omega)
      · rw [h4]; exact nI_ge (a := m) (b := 10000) (by omega) (by decide)
    rw [if_pos e2, if_neg nl]
  · rw [if_neg e2]
/-- a number on both sides: passed, or a fault here -/
theorem nm_step {n k a e : Nat} {A : Nat → Nat → Int32} {r : Nat → Int32} {F : Nat → Nat → Int32} (Z : TS n A k a e r F) {m : Nat} {M : Int32} (hM : M = nI m) (hm : m ≤ 9999) (p : Nat → Int32) (p2 : Nat → Nat → Int32) (S : Nat → Nat → Int32) (s q : Nat → Int32) :
    (∃ v r' F' k' a' e', v ≤ m ∧ r 14 = nI v ∧ rv_EV 184 [.ref 0, .int 0, .int M] (mR A p r) = some (some (.int 1), mR A p r) ∧ rv_EV 177 [.ref 0] (mR A (p2 v) r) = some (none, mR A (p2 v) r') ∧ rv_EV 46 [.ref 35, .int M] (cD S s q F 34) = some (some (.int (nI v)), cD S s q F' 34) ∧ TS n A k' a' e' r' F' ∧ a < a' ∧ frR r r' ∧ frF F F')
    ∨ (rv_EV 184 [.ref 0, .int 0, .int M] (mR A p r) = some (some (.int 0), mR A p (upd r 15 (nI a))) ∧ rv_EV 46 [.ref 35, .int M] (cD S s q F 34) = some (some (.int (-1)), cD S s q F 34) ∧ F 35 3 = nI a) := by
  subst hM
  by_cases b : NB k r m
  · left
    obtain ⟨hk, v, hv, e14⟩ := b
    obtain ⟨r', F', k', a', e', g1, g2, g3, g4, g5, g6⟩ := ts_next Z (p2 v) S s q
    have hae : a < e := Z.2.2.2.2.2.2.2.2.2.2 (by omega)
    exact ⟨v, r', F', k', a', e', hv, e14, r_num_y Z p hm hv hk e14, g1, c_num_y Z hm hv hk e14 g2, g3, by omega, g5, g6⟩
  · right
    exact ⟨r_num_n Z p hm b, c_num_n Z hm b S s q, Z.2.2.2.2.1.2⟩
theorem ts_an {n k a e : Nat} {A : Nat → Nat → Int32} {r : Nat → Int32} {F : Nat → Nat → Int32} (Z : TS n A k a e r F) : a ≤ n := Nat.le_trans Z.2.2.2.2.2.2.2.1 Z.2.2.2.2.2.2.2.2.1
/-! words -/
theorem c_word_y {n k a e : Nat} {A : Nat → Nat → Int32} {r : Nat → Int32} {F : Nat → Nat → Int32} (Z : TS n A k a e r F) {i : Nat} (hi : i < 14) (g : WD A n k a e i) {S : Nat → Nat → Int32} {s q : Nat → Int32} {F' : Nat → Nat → Int32} (nx : rv_EV 47 [.ref 35] (cD S s q F 34) = some (none, cD S s q F' 34)) : rv_EV 45 [.ref 35, .ref (1000 + i)] (cD S s q F 34) = some (some (.int 1), cD S s q F' 34) := by
  rw [ev_X3_passWord _ _ _ (obBD S s q F 34), c_atHand Z.1 Z.2.2.1 Z.2.2.2 hi, wdI_y g]
  simp only [cb_eq, cb_ne, cb_lt, cb_ge, cb_gt, cb_le, cb_q, cb_qL, ri_s2, rl_s, rr_s, rv_s, bd_s, i10, cond_true, cond_false, i10_n, if_false, nx, bz_1]
theorem c_word_n {n k a e : Nat} {A : Nat → Nat → Int32} {r : Nat → Int32} {F : Nat → Nat → Int32} (Z : TS n A k a e r F) {i : Nat} (hi : i < 14) (g : ¬ WD A n k a e i) (S : Nat → Nat → Int32) (s q : Nat → Int32) : rv_EV 45 [.ref 35, .ref (1000 + i)] (cD S s q F 34) = some (some (.int 0), cD S s q F 34) := by
  rw [ev_X3_passWord _ _ _ (obBD S s q F 34), c_atHand Z.1 Z.2.2.1 Z.2.2.2 hi, wdI_n g]
  simp only [cb_eq, cb_ne, cb_lt, cb_ge, cb_gt, cb_le, cb_q, cb_qL, ri_s2, rl_s, rr_s, rv_s, bd_s, i10, cond_true, cond_false, if_true, bz_0]
theorem wd_a {n k a e : Nat} {A : Nat → Nat → Int32} {r : Nat → Int32} {F : Nat → Nat → Int32} (Z : TS n A k a e r F) {i : Nat} (g : WD A n k a e i) : a < e := Z.2.2.2.2.2.2.2.2.2.2 (by rw [g.1]; decide)
theorem wdI_if {A : Nat → Nat → Int32} {n k a e i : Nat} {P : Prop} [Decidable P] (h : WD A n k a e i ↔ P) : (if P then (1 : Int32) else 0) = wdI A n k a e i := by
  by_cases p : P
  · rw [if_pos p, wdI_y (h.mpr p)]
  · rw [if_neg p, wdI_n (fun f => p (h.mp f))]
theorem r_two {n k a e : Nat} {A : Nat → Nat → Int32} {r : Nat → Int32} {F : Nat → Nat → Int32} (Z : TS n A k a e r F) (s : Nat → Int32) (x0 x1 : Int32) : rv_EV 186 [.ref 0, .int x0, .int x1] (mR A s r) = some (some (.int (if (k = 1 ∧ e = a + 2) ∧ bt A n (a + 0) = x0 ∧ bt A n (a + 1) = x1 then 1 else 0)), mR A s r) := by
  have w : rv_EV 179 [.ref 0, .int 2] (mR A s r) = some (some (.int (if k = 1 ∧ e = a + 2 then 1 else 0)), mR A s r) := r_isWord Z.1.1 Z.2.2.2 (l := 2) (by decide)
  have a2 : r 12 = nI a := Z.2.2.2.2.1.1
  have hn := Z.1.1
  have ha : a ≤ n := Nat.le_trans Z.2.2.2.2.2.2.2.1 Z.2.2.2.2.2.2.2.2.1
  rw [ev_X5_isTwo _ _ _ _ (obR A s r)]
  simp only [cb_eq, cb_ne, cb_lt, cb_ge, cb_gt, cb_le, cb_q, cb_qL, ri_s2, rl_s, rr_s, rv_s, bd_s, i10, cond_true, cond_false, lgR4, sgR4, lgR7, sgR7, lgR11, sgR11, lgR12, sgR12, lgR13, sgR13, lgR14, sgR14, lgR15, sgR15, lfR_1, lfR_2, lfR_3, lfR_5, lfR_6, lfR_8, lfR_9, lfR_10, w, a2, nI_1, r_byte hn A s r Z.2.1 (show a < 1000 by omega), r_byte hn A s r Z.2.1 (show a + 1 < 1000 by omega)]
  by_cases g0 : k = 1 ∧ e = a + 2
  · by_cases g1 : bt A n a = x0
    · by_cases g2 : bt A n (a + 1) = x1
      · rw [if_neg (fun f => f g0), if_pos g1, if_pos g2, if_pos ⟨g0, g1, g2⟩]
      · rw [if_neg (fun f => f g0), if_pos g1, if_neg g2, if_neg (fun f => g2 f.2.2)]
    · rw [if_neg (fun f => f g0), if_neg g1, if_neg (fun f => g1 f.2.1)]
  · rw [if_pos g0, if_neg (fun f => g0 f.1)]
theorem r_four {n k a e : Nat} {A : Nat → Nat → Int32} {r : Nat → Int32} {F : Nat → Nat → Int32} (Z : TS n A k a e r F) (s : Nat → Int32) (x0 x1 x2 x3 : Int32) : rv_EV 181 [.ref 0, .int x0, .int x1, .int x2, .int x3] (mR A s r) = some (some (.int (if (k = 1 ∧ e = a + 4) ∧ bt A n (a + 0) = x0 ∧ bt A n (a + 1) = x1 ∧ bt A n (a + 2) = x2 ∧ bt A n (a + 3) = x3 then 1 else 0)), mR A s r) := by
  have w : rv_EV 179 [.ref 0, .int 4] (mR A s r) = some (some (.int (if k = 1 ∧ e = a + 4 then 1 else 0)), mR A s r) := r_isWord Z.1.1 Z.2.2.2 (l := 4) (by decide)
  have t0 : rv_EV 178 [.ref 0, .int 0, .int x0, .int x1, .int x2] (mR A s r) = _ := r_has3 Z.1.1 Z.2.1 Z.2.2.2 (i := 0) (by decide) x0 x1 x2
  have t1 : rv_EV 178 [.ref 0, .int 1, .int x1, .int x2, .int x3] (mR A s r) = _ := r_has3 Z.1.1 Z.2.1 Z.2.2.2 (i := 1) (by decide) x1 x2 x3
  rw [ev_X5_isFour _ _ _ _ _ _ (obR A s r)]
  simp only [cb_eq, cb_ne, cb_lt, cb_ge, cb_gt, cb_le, cb_q, cb_qL, ri_s2, rl_s, rr_s, rv_s, bd_s, i10, cond_true, cond_false, w, t0, t1]
  rw [ifc3]
  by_cases g : (k = 1 ∧ e = a + 4) ∧ bt A n (a + 0) = x0 ∧ bt A n (a + 1) = x1 ∧ bt A n (a + 2) = x2 ∧ bt A n (a + 3) = x3
  · rw [if_pos g, if_pos ⟨g.1, ⟨g.2.1, g.2.2.1, g.2.2.2.1⟩, ⟨g.2.2.1, g.2.2.2.1, g.2.2.2.2⟩⟩]
  · rw [if_neg g, if_neg (fun f => g ⟨f.1, f.2.1.1, f.2.1.2.1, f.2.1.2.2, f.2.2.2.2⟩)]
theorem r_five {n k a e : Nat} {A : Nat → Nat → Int32} {r : Nat → Int32} {F : Nat → Nat → Int32} (Z : TS n A k a e r F) (s : Nat → Int32) (x0 x1 x2 x3 x4 : Int32) : rv_EV 182 [.ref 0, .int x0, .int x1, .int x2, .int x3, .int x4] (mR A s r) = some (some (.int (if (k = 1 ∧ e = a + 5) ∧ bt A n (a + 0) = x0 ∧ bt A n (a + 1) = x1 ∧ bt A n (a + 2) = x2 ∧ bt A n (a + 3) = x3 ∧ bt A n (a + 4) = x4 then 1 else 0)), mR A s r) := by
  have w : rv_EV 179 [.ref 0, .int 5] (mR A s r) = some (some (.int (if k = 1 ∧ e = a + 5 then 1 else 0)), mR A s r) := r_isWord Z.1.1 Z.2.2.2 (l := 5) (by decide)
  have t0 : rv_EV 178 [.ref 0, .int 0, .int x0, .int x1, .int x2] (mR A s r) = _ := r_has3 Z.1.1 Z.2.1 Z.2.2.2 (i := 0) (by decide) x0 x1 x2
  have t1 : rv_EV 178 [.ref 0, .int 2, .int x2, .int x3, .int x4] (mR A s r) = _ := r_has3 Z.1.1 Z.2.1 Z.2.2.2 (i := 2) (by decide) x2 x3 x4
  rw [ev_X5_isFive _ _ _ _ _ _ _ (obR A s r)]
  simp only [cb_eq, cb_ne, cb_lt, cb_ge, cb_gt, cb_le, cb_q, cb_qL, ri_s2, rl_s, rr_s, rv_s, bd_s, i10, cond_true, cond_false, w, t0, t1]
  rw [ifc3]
  by_cases g : (k = 1 ∧ e = a + 5) ∧ bt A n (a + 0) = x0 ∧ bt A n (a + 1) = x1 ∧ bt A n (a + 2) = x2 ∧ bt A n (a + 3) = x3 ∧ bt A n (a + 4) = x4
  · rw [if_pos g, if_pos ⟨g.1, ⟨g.2.1, g.2.2.1, g.2.2.2.1⟩, ⟨g.2.2.2.1, g.2.2.2.2.1, g.2.2.2.2.2⟩⟩]
  · rw [if_neg g, if_neg (fun f => g ⟨f.1, f.2.1.1, f.2.1.2.1, f.2.1.2.2, f.2.2.2.1, f.2.2.2.2⟩)]
theorem r_six {n k a e : Nat} {A : Nat → Nat → Int32} {r : Nat → Int32} {F : Nat → Nat → Int32} (Z : TS n A k a e r F) (s : Nat → Int32) (x0 x1 x2 x3 x4 x5 : Int32) : rv_EV 183 [.ref 0, .int x0, .int x1, .int x2, .int x3, .int x4, .int x5] (mR A s r) = some (some (.int (if (k = 1 ∧ e = a + 6) ∧ bt A n (a + 0) = x0 ∧ bt A n (a + 1) = x1 ∧ bt A n (a + 2) = x2 ∧ bt A n (a + 3) = x3 ∧ bt A n (a + 4) = x4 ∧ bt A n (a + 5) = x5 then 1 else 0)), mR A s r) := by
  have w : rv_EV 179 [.ref 0, .int 6] (mR A s r) = some (some (.int (if k = 1 ∧ e = a + 6 then 1 else 0)), mR A s r) := r_isWord Z.1.1 Z.2.2.2 (l := 6) (by decide)
  have t0 : rv_EV 178 [.ref 0, .int 0, .int x0, .int x1, .int x2] (mR A s r) = _ := r_has3 Z.1.1 Z.2.1 Z.2.2.2 (i := 0) (by decide) x0 x1 x2
  have t1 : rv_EV 178 [.ref 0, .int 3, .int x3, .int x4, .int x5] (mR A s r) = _ := r_has3 Z.1.1 Z.2.1 Z.2.2.2 (i := 3) (by decide) x3 x4 x5
  rw [ev_X5_isSix _ _ _ _ _ _ _ _ (obR A s r)]
  simp only [cb_eq, cb_ne, cb_lt, cb_ge, cb_gt, cb_le, cb_q, cb_qL, ri_s2, rl_s, rr_s, rv_s, bd_s, i10, cond_true, cond_false, w, t0, t1]
  rw [ifc3]
  by_cases g : (k = 1 ∧ e = a + 6) ∧ bt A n (a + 0) = x0 ∧ bt A n (a + 1) = x1 ∧ bt A n (a + 2) = x2 ∧ bt A n (a + 3) = x3 ∧ bt A n (a + 4) = x4 ∧ bt A n (a + 5) = x5
  · rw [if_pos g, if_pos ⟨g.1, ⟨g.2.1, g.2.2.1, g.2.2.2.1⟩, ⟨g.2.2.2.2.1, g.2.2.2.2.2.1, g.2.2.2.2.2.2⟩⟩]
  · rw [if_neg g, if_neg (fun f => g ⟨f.1, f.2.1.1, f.2.1.2.1, f.2.1.2.2, f.2.2.1, f.2.2.2.1, f.2.2.2.2⟩)]
theorem r_in {n k a e : Nat} {A : Nat → Nat → Int32} {r : Nat → Int32} {F : Nat → Nat → Int32} (Z : TS n A k a e r F) (s : Nat → Int32) : rv_EV 186 [.ref 0, .int 105, .int 110] (mR A s r) = some (some (.int (wdI A n k a e 7)), mR A s r) := by rw [r_two Z s 105 110, wdI_if WD_7]
theorem r_of {n k a e : Nat} {A : Nat → Nat → Int32} {r : Nat → Int32} {F : Nat → Nat → Int32} (Z : TS n A k a e r F) (s : Nat → Int32) : rv_EV 186 [.ref 0, .int 111, .int 102] (mR A s r) = some (some (.int (wdI A n k a e 11)), mR A s r) := by rw [r_two Z s 111 102, wdI_if WD_11]
theorem r_with {n k a e : Nat} {A : Nat → Nat → Int32} {r : Nat → Int32} {F : Nat → Nat → Int32} (Z : TS n A k a e r F) (s : Nat → Int32) : rv_EV 181 [.ref 0, .int 119, .int 105, .int 116, .int 104] (mR A s r) = some (some (.int (wdI A n k a e 8)), mR A s r) := by rw [r_four Z s, wdI_if WD_8]
theorem r_plugW {n k a e : Nat} {A : Nat → Nat → Int32} {r : Nat → Int32} {F : Nat → Nat → Int32} (Z : TS n A k a e r F) (s : Nat → Int32) : rv_EV 181 [.ref 0, .int 112, .int 108, .int 117, .int 103] (mR A s r) = some (some (.int (wdI A n k a e 13)), mR A s r) := by rw [r_four Z s, wdI_if WD_13]
theorem r_knowsW {n k a e : Nat} {A : Nat → Nat → Int32} {r : Nat → Int32} {F : Nat → Nat → Int32} (Z : TS n A k a e r F) (s : Nat → Int32) : rv_EV 182 [.ref 0, .int 107, .int 110, .int 111, .int 119, .int 115] (mR A s r) = some (some (.int (wdI A n k a e 9)), mR A s r) := by rw [r_five Z s, wdI_if WD_9]
theorem r_freshW {n k a e : Nat} {A : Nat → Nat → Int32} {r : Nat → Int32} {F : Nat → Nat → Int32} (Z : TS n A k a e r F) (s : Nat → Int32) : rv_EV 182 [.ref 0, .int 102, .int 114, .int 101, .int 115, .int 104] (mR A s r) = some (some (.int (wdI A n k a e 12)), mR A s r) := by rw [r_five Z s, wdI_if WD_12]
theorem r_clerkW {n k a e : Nat} {A : Nat → Nat → Int32} {r : Nat → Int32} {F : Nat → Nat → Int32} (Z : TS n A k a e r F) (s : Nat → Int32) : rv_EV 182 [.ref 0, .int 99, .int 108, .int 101, .int 114, .int 107] (mR A s r) = some (some (.int (wdI A n k a e 1)), mR A s r) := by rw [r_five Z s, wdI_if WD_1]
theorem r_batherW {n k a e : Nat} {A : Nat → Nat → Int32} {r : Nat → Int32} {F : Nat → Nat → Int32} (Z : TS n A k a e r F) (s : Nat → Int32) : rv_EV 183 [.ref 0, .int 98, .int 97, .int 116, .int 104, .int 101, .int 114] (mR A s r) = some (some (.int (wdI A n k a e 6)), mR A s r) := by rw [r_six Z s, wdI_if WD_6]
theorem r_consulW {n k a e : Nat} {A : Nat → Nat → Int32} {r : Nat → Int32} {F : Nat → Nat → Int32} (Z : TS n A k a e r F) (s : Nat → Int32) : rv_EV 183 [.ref 0, .int 99, .int 111, .int 110, .int 115, .int 117, .int 108] (mR A s r) = some (some (.int (wdI A n k a e 5)), mR A s r) := by rw [r_six Z s, wdI_if WD_5]
