/-! THE CALLS: swap, go -/
def swS (s : Nat → Int32) (a b : Nat) : Nat → Int32 := upd (upd s (54 + 4 * a + 1) (s (54 + 4 * b + 1))) (54 + 4 * b + 1) (s (54 + 4 * a + 1))
theorem r_swaps (A : Nat → Nat → Int32) (s r : Nat → Int32) {a b : Nat} (ha : a < 8) (hb : b < 8) (hab : ¬ a = b) : rv_EV 135 [.ref 0, .int (nI a), .int (nI b)] (mR A s r) = some (some (.int (if s (54 + 4 * a + 1) = s (54 + 4 * b + 1) then 0 else 1)), mR A (swS s a b) r) := by
  have ea : (54 + (4 * nI a)) + 1 = nI (54 + 4 * a + 1) := c54_ a 1
  have eb : (54 + (4 * nI b)) + 1 = nI (54 + 4 * b + 1) := c54_ b 1
  have e : swS s a b (54 + 4 * a + 1) = s (54 + 4 * b + 1) := by
    unfold swS
    rw [pk_un (by omega), pk_us]
  rw [ev_X5_swaps _ _ _ _ (obR A s r)]
  simp only [cb_eq, cb_ne, cb_lt, cb_ge, cb_gt, cb_le, cb_q, cb_qL, ri_s, rl_s, rr_s, rv_s, Option.bind_some, i10, cond_true, cond_false, lfR, r_its1 A s r ha, r_its1 A s r hb, ea, eb, stR A s r (show 54 + 4 * a + 1 < 96 by omega), stR A _ r (show 54 + 4 * b + 1 < 96 by omega)]
  rw [show upd (upd s (54 + 4 * a + 1) (s (54 + 4 * b + 1))) (54 + 4 * b + 1) (s (54 + 4 * a + 1)) = swS s a b from rfl]
  simp only [cb_eq, cb_ne, cb_lt, cb_ge, cb_gt, cb_le, cb_q, cb_qL, ri_s, rl_s, rr_s, rv_s, Option.bind_some, i10, cond_true, cond_false, r_its1 A (swS s a b) r ha, e]
  by_cases h : s (54 + 4 * b + 1) = s (54 + 4 * a + 1)
  · rw [if_pos h, if_pos h.symm]
  · rw [if_neg h, if_neg (fun q => h q.symm)]
theorem k_changePlaces (S : Nat → Nat → Int32) {j : Nat} (hj : j < 3) (s : Nat → Int32) (F : Nat → Nat → Int32) (rb : Nat) {a b : Nat} (ha : a < 8) (hb : b < 8) : rv_EV 14 [.ref (sp j), .int (nI a), .int (nI b)] (cR S j s F rb) = some (none, cR S j (swS s a b) F rb) := by
  rw [ev_X2_changePlaces _ _ _ _ (co S hj s F rb)]
  simp only [cb_eq, cb_ne, cb_lt, cb_ge, cb_gt, cb_le, cb_q, cb_qL, ri_s, rl_s, rr_s, rv_s, Option.bind_some, i10, cond_true, cond_false, cf4 S hj, cl4 S hj s F rb ha, cl4 S hj s F rb hb, ct4 S hj s F rb ha, ct4 S hj _ F rb hb]
  rfl
theorem okB_tub {s q : Nat → Int32} {b : Nat} (ok : okB s b) (h : ∀ i, 54 + 4 * b ≤ i → i < 58 + 4 * b → ¬ i = 54 + 4 * b + 1 → q i = s i) {m : Nat} (hm : m < 10) (hq : q (54 + 4 * b + 1) = nI m) : okB q b := by
  obtain ⟨⟨k1, k2⟩, ⟨t1, t2⟩, ⟨o1, o2⟩, ⟨n1, n2⟩⟩ := ok
  have h0 := h (54 + 4 * b + 0) (by omega) (by omega) (by omega)
  have h2 := h (54 + 4 * b + 2) (by omega) (by omega) (by omega)
  have h3 := h (54 + 4 * b + 3) (by omega) (by omega) (by omega)
  have e0 : kdS q b = kdS s b := by unfold kdS; rw [h0]
  have e1 : tbS q b = m := by unfold tbS; rw [hq]; exact nI_clamp (by omega)
  have e2 : owS q b = owS s b := by unfold owS; rw [h2]
  have e3 : knS q b = knS s b := by unfold knS; rw [h3]
  exact ⟨⟨by rw [h0, e0]; exact k1, by rw [e0]; exact k2⟩, ⟨by rw [hq, e1], by rw [e1]; exact hm⟩, ⟨by rw [h2, e2]; exact o1, by rw [e2]; exact o2⟩, ⟨by rw [h3, e3]; exact n1, by rw [e3]; exact n2⟩⟩
theorem swS_okN {s : Nat → Int32} {n a b : Nat} (ok : okN s n) (ha : a < n) (hb : b < n) (hab : ¬ a = b) : okN (swS s a b) n := by
  intro c hc
  obtain ⟨-, ⟨ta, ta2⟩, -⟩ := ok a ha
  obtain ⟨-, ⟨tb, tb2⟩, -⟩ := ok b hb
  by_cases e1 : c = a
  · subst e1
    refine okB_tub (ok c hc) (fun i h1 h2 h3 => ?_) tb2 ?_
    · unfold swS; rw [pk_un (by omega), pk_un h3]
    · unfold swS; rw [pk_un (by omega), pk_us]; exact tb
  · by_cases e2 : c = b
    · subst e2
      refine okB_tub (ok c hc) (fun i h1 h2 h3 => ?_) ta2 ?_
      · unfold swS; rw [pk_un h3, pk_un (by omega)]
      · unfold swS; rw [pk_us]; exact ta
    · exact (okB_congr (fun i h1 h2 => by unfold swS; rw [pk_un (by omega), pk_un (by omega)])).1 (ok c hc)
theorem swS_out (s : Nat → Int32) {a b i : Nat} (ha : ¬ i = 54 + 4 * a + 1) (hb : ¬ i = 54 + 4 * b + 1) : swS s a b i = s i := by
  unfold swS; rw [pk_un hb, pk_un ha]
theorem Inv_sw {h : Nat} {s : Nat → Int32} (I : Inv h s) {n a b : Nat} (hn : n ≤ 8) (hs : s 0 = nI n) (ha : a < n) (hb : b < n) (hab : ¬ a = b) : Inv h (swS s a b) := by
  obtain ⟨⟨n', hn', hs', ok, sps⟩, ⟨t1, ht1, e1⟩, hw, h9⟩ := I
  have en : n' = n := (nI_eq (by omega) (by omega)).mp (hs'.symm.trans hs)
  subst en
  exact ⟨⟨n', hn', by rw [swS_out s (by omega) (by omega)]; exact hs, swS_okN ok ha hb hab, fun k hk => by rw [swS_out s (by omega) (by omega)]; exact sps k hk⟩, ⟨t1, ht1, by rw [swS_out s (by omega) (by omega)]; exact e1⟩, ⟨by rw [swS_out s (by omega) (by omega)]; exact hw.1, fun u hu => by rw [swS_out s (by omega) (by omega)]; exact hw.2 u hu⟩, by rw [swS_out s (by omega) (by omega)]; exact h9⟩
theorem s_swap {h : Nat} {A : Nat → Nat → Int32} {r : Nat → Int32} {S F : Nat → Nat → Int32} {rb : Nat} {s : Nat → Int32} (R : Rel h A r S F s) (x y : Int32) : Sim h 136 59 [.int x, .int y] A r S F rb s := by
  by_cases g : (0 ≤ x ∧ x < s 0) ∧ (0 ≤ y ∧ y < s 0) ∧ ¬ x = y
  · obtain ⟨n, hn, hs, ok, -⟩ := R.1.1
    obtain ⟨a, ha, rfl⟩ := ix_rg (n := n) (by omega) g.1.1 (by rw [← hs]; exact g.1.2)
    obtain ⟨b, hb, rfl⟩ := ix_rg (n := n) (by omega) g.2.1.1 (by rw [← hs]; exact g.2.1.2)
    have hab : ¬ a = b := fun q => g.2.2 (by rw [q])
    refine sim_r (s' := swS s a b) (x := if s (54 + 4 * a + 1) = s (54 + 4 * b + 1) then 0 else 1) R (Nat.le_refl _) ?_ ?_ (Inv_sw R.1 hn hs ha hb hab)
    · rw [ev_X5_swap _ _ _ _ (obR A s r)]
      simp only [cb_eq, cb_ne, cb_lt, cb_ge, cb_gt, cb_le, cb_q, cb_qL, ri_s, rl_s, rr_s, rv_s, Option.bind_some, i10, cond_true, cond_false, r_isBather, r_f0, r_swaps A s r (show a < 8 by omega) (show b < 8 by omega) hab, g.2.2, if_false]
      exact if2y ⟨g.1, g.2.1⟩ _ _
    · rw [ev_X4_swap _ _ _ _ (obD S 0 s F rb)]
      simp only [cb_eq, cb_ne, cb_lt, cb_ge, cb_gt, cb_le, cb_q, cb_qL, ri_s, rl_s, rr_s, rv_s, Option.bind_some, i10, cond_true, cond_false, lfD0, lfD1, lfD2, lfD3, lfD4, lfD5, lfD6, lgD7, lgD8, sgD7, sgD8, k_hasBather S h03, c_f0, cf4 S h03, cl4 S h03 s F rb (show a < 8 by omega), cl4 S h03 s F rb (show b < 8 by omega), g.2.2, if_false, bk_X4_swap_59, k_changePlaces S h03 s F rb (show a < 8 by omega) (show b < 8 by omega), show ¬ (1 : Int32) = 0 from by decide, if_true]
      refine (if2y ⟨g.1, g.2.1⟩ _ _).trans ?_
      by_cases e : s (54 + 4 * a + 1) = s (54 + 4 * b + 1)
      · rw [if_pos e, if_pos e]
      · rw [if_neg e, if_neg e]
  · have g' : ¬ ((0 ≤ x ∧ x < s 0) ∧ (0 ≤ y ∧ y < s 0)) ∨ (((0 ≤ x ∧ x < s 0) ∧ (0 ≤ y ∧ y < s 0)) ∧ x = y) := by
      by_cases e : (0 ≤ x ∧ x < s 0) ∧ (0 ≤ y ∧ y < s 0)
      · right
        refine ⟨e, Classical.byContradiction fun q => g ⟨e.1, e.2, q⟩⟩
      · exact Or.inl e
    refine sim_f R (k := 0) (x := -1000001) (by decide) ?_ ?_
    · rw [ev_X5_swap _ _ _ _ (obR A s r)]
      simp only [cb_eq, cb_ne, cb_lt, cb_ge, cb_gt, cb_le, cb_q, cb_qL, ri_s, rl_s, rr_s, rv_s, Option.bind_some, i10, cond_true, cond_false, r_isBather, r_f0]
      rcases g' with g' | ⟨g1, g2⟩
      · exact if2n g' _ _
      · refine (if2y g1 _ _).trans ?_
        rw [if_pos g2]
    · rw [ev_X4_swap _ _ _ _ (obD S 0 s F rb)]
      simp only [cb_eq, cb_ne, cb_lt, cb_ge, cb_gt, cb_le, cb_q, cb_qL, ri_s, rl_s, rr_s, rv_s, Option.bind_some, i10, cond_true, cond_false, lfD0, lfD1, lfD2, lfD3, lfD4, lfD5, lfD6, lgD7, lgD8, sgD7, sgD8, k_hasBather S h03, c_f0]
      rcases g' with g' | ⟨g1, g2⟩
      · exact if2n g' _ _
      · refine (if2y g1 _ _).trans ?_
        rw [if_pos g2]
/-! hours -/
theorem Inv_hour {h : Nat} {s : Nat → Int32} (I : Inv h s) : Inv (h + 1) (hourS 0 s) := by
  obtain ⟨⟨n, hn, hs, ok, sps⟩, ⟨t1, ht1, e1⟩, hw, h9⟩ := I
  exact ⟨⟨n, hn, by rw [hourS_out hn hs ok (by omega) (fun _ _ => by omega)]; exact hs, hourS_okN hn hs ok, fun k hk => by rw [hourS_out hn hs ok (by omega) (fun _ _ => by omega)]; exact sps k hk⟩, ⟨t1 + 1, by omega, by rw [hourS_1, e1, nI_1]⟩, wOK_hour hn hs ok hw, by rw [hourS_out hn hs ok (by omega) (fun _ _ => by omega)]; exact h9⟩
theorem Inv_hours {h : Nat} {s : Nat → Int32} (I : Inv h s) : ∀ k, Inv (h + k) (hoursS 0 s k)
  | 0 => I
  | k + 1 => Inv_hour (Inv_hours I k)
theorem s_go {h : Nat} {A : Nat → Nat → Int32} {r : Nat → Int32} {S F : Nat → Nat → Int32} {rb : Nat} {s : Nat → Int32} (R : Rel h A r S F s) (hh : h ≤ 30000) (x : Int32) : Sim (h + 40) 140 60 [.int x] A r S F rb s := by
  by_cases g : 1 ≤ x ∧ x ≤ 40
  · obtain ⟨⟨n, hn, hs, ok, sps⟩, ⟨t1, ht1, e1⟩, hw, h9⟩ := R.1
    have hx0 : 0 ≤ x := Int32.le_trans (by decide) g.1
    obtain ⟨k, hk, rfl⟩ := ix_le (n := 40) (by decide) hx0 g.2
    have c1 : nI t1 + nI k ≤ 99999 := by rw [nI_add]; exact nI_le (a := t1 + k) (b := 99999) (by omega) (by decide)
    have c2 : nI t1 ≤ 99999 - nI k := by
      rw [show (99999 : Int32) = nI 99999 from rfl, pk_sub (by omega)]
      exact nI_le (by omega) (by omega)
    have w13 : rv_ldI (mR A (hoursS 0 s k) r) 1 13 = some (hoursS 0 s k 13) := ldR A _ r (j := 13) (by decide)
    have w9 : rv_ldI (cR S 0 (hoursS 0 s k) F rb) (sa 0 1) 9 = some (hoursS 0 s k 13) := cl1 S h03 _ F rb (k := 9) (by decide)
    have hp := k_passHours S h03 s F rb hn hs ok hw e1 (k := k) (by omega)
    rw [h9] at hp
    refine sim_r (s' := hoursS 0 s k) (x := hoursS 0 s k 13) R (by omega) ?_ ?_ ((Inv_hours R.1 k).mono (by omega))
    · rw [ev_X5_go _ _ _ (obR A s r)]
      simp only [cb_eq, cb_ne, cb_lt, cb_ge, cb_gt, cb_le, cb_q, cb_qL, ri_s, rl_s, rr_s, rv_s, Option.bind_some, i10, cond_true, cond_false, m_isIn, r_f0, lfR, ldR1, e1, c1, if_true, m_hours A s r hn hs ok (show k < 2 ^ 31 by omega), w13]
      exact if1y g _ _
    · rw [ev_X4_go _ _ _ (obD S 0 s F rb)]
      simp only [cb_eq, cb_ne, cb_lt, cb_ge, cb_gt, cb_le, cb_q, cb_qL, ri_s, rl_s, rr_s, rv_s, Option.bind_some, i10, cond_true, cond_false, lfD0, lfD1, lfD2, lfD3, lfD4, lfD5, lfD6, lgD7, lgD8, sgD7, sgD8, cg9 S h03, e1, c2, if_true, hp, cf1 S h03, w9, g.2, show ¬ nI k < 1 from Int32.not_lt.mpr g.1, if_false]
  · have g' : x < 1 ∨ (¬ x < 1 ∧ ¬ x ≤ 40) := by
      by_cases e : x < 1
      · exact Or.inl e
      · exact Or.inr ⟨e, fun q => g ⟨Int32.not_lt.mp e, q⟩⟩
    refine sim_f (R.mono (by omega)) (k := 0) (x := -1000001) (by decide) ?_ ?_
    · rw [ev_X5_go _ _ _ (obR A s r)]
      simp only [cb_eq, cb_ne, cb_lt, cb_ge, cb_gt, cb_le, cb_q, cb_qL, ri_s, rl_s, rr_s, rv_s, Option.bind_some, i10, cond_true, cond_false, m_isIn, r_f0]
      exact if1n g _ _
    · rw [ev_X4_go _ _ _ (obD S 0 s F rb)]
      simp only [cb_eq, cb_ne, cb_lt, cb_ge, cb_gt, cb_le, cb_q, cb_qL, ri_s, rl_s, rr_s, rv_s, Option.bind_some, i10, cond_true, cond_false, lfD0, lfD1, lfD2, lfD3, lfD4, lfD5, lfD6, lgD7, lgD8, sgD7, sgD8, c_f0]
      rcases g' with e | ⟨e1, e2⟩
      · rw [if_pos e]
      · rw [if_neg e1, if_neg e2]
