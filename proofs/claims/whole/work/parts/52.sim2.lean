/-! THE CALLS: fresh, plug, bather, of, change, swap -/
theorem Inv_2 {h : Nat} {s : Nat → Int32} (I : Inv h s) {y : Int32} (hy : 0 ≤ y) : Inv h (upd s 2 y) := by
  obtain ⟨⟨n, hn, hs, ok, sps⟩, ⟨t1, ht1, e1⟩, hw, h9⟩ := I
  exact ⟨⟨n, hn, by rw [pk_un (by omega)]; exact hs, fun b hb => (okB_congr (fun i h1 _ => pk_un (by omega))).1 (ok b hb), fun k hk => by rw [pk_un (by omega)]; exact sps k hk⟩, ⟨t1, ht1, by rw [pk_un (by omega)]; exact e1⟩, ⟨by rw [pk_us]; exact hy, fun u hu => by rw [pk_un (by omega)]; exact hw.2 u hu⟩, by rw [pk_un (by omega)]; exact h9⟩
theorem Inv_pul {h : Nat} {s : Nat → Int32} (I : Inv h s) {t : Nat} (ht : t < 10) : Inv h (pulS s t) := by
  obtain ⟨⟨n, hn, hs, ok, sps⟩, ⟨t1, ht1, e1⟩, hw, h9⟩ := I
  have o : ∀ i, (i < 4 ∨ 54 ≤ i) → pulS s t i = s i := fun i hi => by unfold pulS; rw [if_neg (by omega)]
  refine ⟨⟨n, hn, by rw [o 0 (by omega)]; exact hs, fun b hb => (okB_congr (fun i h1 _ => o i (by omega))).1 (ok b hb), fun k hk => by rw [o _ (by omega)]; exact sps k hk⟩, ⟨t1, ht1, by rw [o 1 (by omega)]; exact e1⟩, ⟨by rw [o 2 (by omega)]; exact hw.1, fun u hu => ?_⟩, by rw [o 96 (by omega)]; exact h9⟩
  unfold pulS
  split
  · decide
  · exact hw.2 u hu
theorem r_bec2 (A : Nat → Nat → Int32) (s r : Nat → Int32) (v : Int32) : rv_EV 109 [.ref 0, .int 2, .int v] (mR A s r) = some (some (.int (s 2)), mR A (upd s 2 v) r) := r_becomes A s r (j := 2) (by decide) v
theorem s_fresh {h : Nat} {A : Nat → Nat → Int32} {r : Nat → Int32} {S F : Nat → Nat → Int32} {rb : Nat} {s : Nat → Int32} (R : Rel h A r S F s) (x : Int32) : Sim h 123 54 [.int x] A r S F rb s := by
  by_cases g : 0 ≤ x ∧ x ≤ 99
  · refine sim_r (s' := upd s 2 x) (x := s 2) R (Nat.le_refl _) ?_ ?_ (Inv_2 R.1 g.1)
    · rw [ev_X5_fresh _ _ _ (obR A s r)]
      simp only [cb_eq, cb_ne, cb_lt, cb_ge, cb_gt, cb_le, cb_q, cb_qL, ri_s, rl_s, rr_s, rv_s, Option.bind_some, i10, cond_true, cond_false, m_isIn, r_f0, r_bec2]
      exact if1y g _ _
    · rw [ev_X4_fresh _ _ _ (obD S 0 s F rb)]
      simp only [cb_eq, cb_ne, cb_lt, cb_ge, cb_gt, cb_le, cb_q, cb_qL, ri_s, rl_s, rr_s, rv_s, Option.bind_some, i10, cond_true, cond_false, lfD0, lfD1, lfD2, lfD3, lfD4, lfD5, lfD6, lgD7, lgD8, sgD7, sgD8, c_isWithin, c_f0, cg8 S h03, ch8 S h03]
      exact if1y g _ _
  · refine sim_f R (k := 0) (x := -1000001) (by decide) ?_ ?_
    · rw [ev_X5_fresh _ _ _ (obR A s r)]
      simp only [cb_eq, cb_ne, cb_lt, cb_ge, cb_gt, cb_le, cb_q, cb_qL, ri_s, rl_s, rr_s, rv_s, Option.bind_some, i10, cond_true, cond_false, m_isIn, r_f0]
      exact if1n g _ _
    · rw [ev_X4_fresh _ _ _ (obD S 0 s F rb)]
      simp only [cb_eq, cb_ne, cb_lt, cb_ge, cb_gt, cb_le, cb_q, cb_qL, ri_s, rl_s, rr_s, rv_s, Option.bind_some, i10, cond_true, cond_false, lfD0, lfD1, lfD2, lfD3, lfD4, lfD5, lfD6, lgD7, lgD8, sgD7, sgD8, c_isWithin, c_f0]
      exact if1n g _ _
theorem r_pulls (A : Nat → Nat → Int32) (s r : Nat → Int32) {t : Nat} (ht : t < 10) : rv_EV 124 [.ref 0, .int (nI t)] (mR A s r) = some (some (.int (allS s t)), mR A (pulS s t) r) := by
  have a1 : rv_EV 120 [.ref 0, .int (nI t)] (mR A s r) = some (some (.int (allS s t)), mR A s r) := m_allIn (upA A 1 s) r ht
  have st : ∀ (c : Nat) (q : Nat → Int32) (v : Int32), c < 4 → rv_GO rc_X5_pulls 17 [some (.ref 0), some (.int (nI t)), some (.int v), some (.int (nI c))] [] (mR A q r) = rv_GO rc_X5_pulls 17 [some (.ref 0), some (.int (nI t)), some (.int v), some (.int (nI (c + 1)))] [] (mR A (upd q (14 + 4 * t + c) 0) r) := by
    intro c q v hc
    rw [bk_X5_pulls_17]
    simp only [cb_eq, cb_ne, cb_lt, cb_ge, cb_gt, cb_le, cb_q, cb_qL, ri_s, rl_s, rr_s, rv_s, Option.bind_some, i10, cond_true, cond_false, lfR, m_placeOf, stR A q r (show 14 + 4 * t + c < 96 by omega), nI_1, show ¬ (4 : Int32) ≤ nI c from nI_ge (a := c) (b := 4) hc (by decide), if_false]
  rw [ev_X5_pulls _ _ _ (obR A s r)]
  simp only [cb_eq, cb_ne, cb_lt, cb_ge, cb_gt, cb_le, cb_q, cb_qL, ri_s, rl_s, rr_s, rv_s, Option.bind_some, i10, cond_true, cond_false, lfR, a1, c4_, stR A s r (show 4 + t < 96 by omega)]
  have s0 := st 0 (upd s (4 + t) 0) (allS s t) (by decide)
  rw [nI_0] at s0
  rw [s0, st 1 _ _ (by decide), st 2 _ _ (by decide), st 3 _ _ (by decide), bk_X5_pulls_17]
  simp only [cb_eq, cb_ne, cb_lt, cb_ge, cb_gt, cb_le, cb_q, cb_qL, ri_s, rl_s, rr_s, rv_s, Option.bind_some, i10, cond_true, cond_false, show (4 : Int32) ≤ nI (3 + 1) from by decide, if_true]
  refine congrArg (fun w => some (some (Value.int (allS s t)), w)) (mR_congr A r fun i _ => ?_)
  simp only [pulS, upd]
  grind
theorem s_plug {h : Nat} {A : Nat → Nat → Int32} {r : Nat → Int32} {S F : Nat → Nat → Int32} {rb : Nat} {s : Nat → Int32} (R : Rel h A r S F s) (x : Int32) : Sim h 125 55 [.int x] A r S F rb s := by
  by_cases g : 0 ≤ x ∧ x < 10
  · obtain ⟨t, ht, rfl⟩ := ix_rg (n := 10) (by decide) g.1 g.2
    refine sim_r (s' := pulS s t) (x := allS s t) R (Nat.le_refl _) ?_ ?_ (Inv_pul R.1 ht)
    · rw [ev_X5_plug _ _ _ (obR A s r)]
      simp only [cb_eq, cb_ne, cb_lt, cb_ge, cb_gt, cb_le, cb_q, cb_qL, ri_s, rl_s, rr_s, rv_s, Option.bind_some, i10, cond_true, cond_false, m_isTub, r_f0, r_pulls A s r ht]
      exact if1y g _ _
    · rw [ev_X4_plug _ _ _ (obD S 0 s F rb)]
      simp only [cb_eq, cb_ne, cb_lt, cb_ge, cb_gt, cb_le, cb_q, cb_qL, ri_s, rl_s, rr_s, rv_s, Option.bind_some, i10, cond_true, cond_false, lfD0, lfD1, lfD2, lfD3, lfD4, lfD5, lfD6, lgD7, lgD8, sgD7, sgD8, c_isTub, c_f0, k_scentsIn S h03 s F rb ht, k_pullPlug S h03 s F rb ht]
      exact if1y g _ _
  · refine sim_f R (k := 0) (x := -1000001) (by decide) ?_ ?_
    · rw [ev_X5_plug _ _ _ (obR A s r)]
      simp only [cb_eq, cb_ne, cb_lt, cb_ge, cb_gt, cb_le, cb_q, cb_qL, ri_s, rl_s, rr_s, rv_s, Option.bind_some, i10, cond_true, cond_false, m_isTub, r_f0]
      exact if1n g _ _
    · rw [ev_X4_plug _ _ _ (obD S 0 s F rb)]
      simp only [cb_eq, cb_ne, cb_lt, cb_ge, cb_gt, cb_le, cb_q, cb_qL, ri_s, rl_s, rr_s, rv_s, Option.bind_some, i10, cond_true, cond_false, lfD0, lfD1, lfD2, lfD3, lfD4, lfD5, lfD6, lgD7, lgD8, sgD7, sgD8, c_isTub, c_f0]
      exact if1n g _ _
/-! a new bather -/
def newB (s : Nat → Int32) (n : Nat) (k t o q : Int32) : Nat → Int32 := upd (upd (upd (upd (upd s (54 + 4 * n) k) (54 + 4 * n + 1) t) (54 + 4 * n + 2) o) (54 + 4 * n + 3) q) 0 (nI (n + 1))
theorem r_comes (A : Nat → Nat → Int32) (s r : Nat → Int32) {n : Nat} (hn : n < 8) (hs : s 0 = nI n) (k t o q : Int32) : rv_EV 126 [.ref 0, .int k, .int t, .int o, .int q] (mR A s r) = some (none, mR A (newB s n k t o q) r) := by
  have e1 : nI (54 + 4 * n) + 1 = nI (54 + 4 * n + 1) := nI_add _ 1
  have e2 : nI (54 + 4 * n) + 2 = nI (54 + 4 * n + 2) := nI_add _ 2
  have e3 : nI (54 + 4 * n) + 3 = nI (54 + 4 * n + 3) := nI_add _ 3
  have w0 : ∀ q : Nat → Int32, ∀ x, rv_stI (mR A q r) 1 0 x = some (mR A (upd q 0 x) r) := fun q x => stR A q r (j := 0) (by decide) x
  have v0 : upd (upd (upd (upd s (54 + 4 * n) k) (54 + 4 * n + 1) t) (54 + 4 * n + 2) o) (54 + 4 * n + 3) q 0 = nI n := by
    rw [pk_un (by omega), pk_un (by omega), pk_un (by omega), pk_un (by omega)]
    exact hs
  rw [ev_X5_comes _ _ _ _ _ _ (obR A s r)]
  simp only [cb_eq, cb_ne, cb_lt, cb_ge, cb_gt, cb_le, cb_q, cb_qL, ri_s, rl_s, rr_s, rv_s, Option.bind_some, i10, cond_true, cond_false, lfR, ldR0, hs, e1, e2, e3, c54a, stR A _ r (show 54 + 4 * n < 96 by omega), stR A _ r (show 54 + 4 * n + 1 < 96 by omega), stR A _ r (show 54 + 4 * n + 2 < 96 by omega), stR A _ r (show 54 + 4 * n + 3 < 96 by omega), w0, v0, nI_1]
  rfl
theorem k_addBather (S : Nat → Nat → Int32) {j : Nat} (hj : j < 3) (s : Nat → Int32) (F : Nat → Nat → Int32) (rb : Nat) {n : Nat} (hn : n < 8) (hs : s 0 = nI n) (k t o q : Int32) : rv_EV 12 [.ref (sp j), .int k, .int t, .int o, .int q] (cR S j s F rb) = some (some (.int (nI n)), cR S j (newB s n k t o q) F rb) := by
  have v0 : upd (upd (upd (upd s (54 + 4 * n + 0) k) (54 + 4 * n + 1) t) (54 + 4 * n + 2) o) (54 + 4 * n + 3) q 0 = nI n := by
    rw [pk_un (by omega), pk_un (by omega), pk_un (by omega), pk_un (by omega)]
    exact hs
  rw [ev_X2_addBather _ _ _ _ _ _ (co S hj s F rb)]
  simp only [cb_eq, cb_ne, cb_lt, cb_ge, cb_gt, cb_le, cb_q, cb_qL, ri_s, rl_s, rr_s, rv_s, Option.bind_some, i10, cond_true, cond_false, cg7 S hj, hs, cf3 S hj, cf4 S hj, cf5 S hj, cf6 S hj, ct3 S hj _ F rb hn, ct4 S hj _ F rb hn, ct5 S hj _ F rb hn, ct6 S hj _ F rb hn, v0, ch7 S hj, nI_1]
  rfl
theorem newB_at (s : Nat → Int32) (n : Nat) (k t o q : Int32) : newB s n k t o q 0 = nI (n + 1) ∧ newB s n k t o q (54 + 4 * n + 0) = k ∧ newB s n k t o q (54 + 4 * n + 1) = t ∧ newB s n k t o q (54 + 4 * n + 2) = o ∧ newB s n k t o q (54 + 4 * n + 3) = q := by
  simp only [newB, upd]
  refine ⟨?_, ?_, ?_, ?_, ?_⟩ <;> grind
theorem newB_out (s : Nat → Int32) {n : Nat} (k t o q : Int32) {i : Nat} (h0 : ¬ i = 0) (h1 : i < 54 + 4 * n ∨ 58 + 4 * n ≤ i) : newB s n k t o q i = s i := by
  simp only [newB, upd]
  grind
theorem okB_new {s : Nat → Int32} {n : Nat} {k t o q : Nat} (hk : k < 7) (ht : t < 10) (ho : o < 4) (hq : q < 16) : okB (newB s n (nI k) (nI t) (nI o) (nI q)) n := by
  obtain ⟨-, a0, a1, a2, a3⟩ := newB_at s n (nI k) (nI t) (nI o) (nI q)
  have e0 : kdS (newB s n (nI k) (nI t) (nI o) (nI q)) n = k := by unfold kdS; rw [a0]; exact nI_clamp (by omega)
  have e1 : tbS (newB s n (nI k) (nI t) (nI o) (nI q)) n = t := by unfold tbS; rw [a1]; exact nI_clamp (by omega)
  have e2 : owS (newB s n (nI k) (nI t) (nI o) (nI q)) n = o := by unfold owS; rw [a2]; exact nI_clamp (by omega)
  have e3 : knS (newB s n (nI k) (nI t) (nI o) (nI q)) n = q := by unfold knS; rw [a3]; exact nI_clamp (by omega)
  unfold okB
  rw [e0, e1, e2, e3]
  exact ⟨⟨a0, hk⟩, ⟨a1, ht⟩, ⟨a2, ho⟩, ⟨a3, hq⟩⟩
theorem Inv_new {h : Nat} {s : Nat → Int32} (I : Inv h s) {n : Nat} (hn : n < 8) (hs : s 0 = nI n) {k t o q : Nat} (hk : k < 7) (ht : t < 10) (ho : o < 4) (hq : q < 16) : Inv h (newB s n (nI k) (nI t) (nI o) (nI q)) := by
  obtain ⟨⟨n', hn', hs', ok, sps⟩, ⟨t1, ht1, e1⟩, hw, h9⟩ := I
  have en : n' = n := (nI_eq (by omega) (by omega)).mp (hs'.symm.trans hs)
  subst en
  refine ⟨⟨n' + 1, by omega, (newB_at s n' _ _ _ _).1, fun b hb => ?_, fun i hi => ?_⟩, ⟨t1, ht1, by rw [newB_out s _ _ _ _ (by omega) (by omega)]; exact e1⟩, ⟨by rw [newB_out s _ _ _ _ (by omega) (by omega)]; exact hw.1, fun u hu => by rw [newB_out s _ _ _ _ (by omega) (by omega)]; exact hw.2 u hu⟩, by rw [newB_out s _ _ _ _ (by omega) (by omega)]; exact h9⟩
  · by_cases e : b = n'
    · subst e; exact okB_new hk ht ho hq
    · exact (okB_congr (fun i h1 h2 => newB_out s _ _ _ _ (by omega) (by omega))).1 (ok b (by omega))
  · rw [newB_out s _ _ _ _ (by omega) (by omega)]
    rcases sps i hi with e | ⟨b, hb, e⟩
    · exact Or.inl e
    · exact Or.inr ⟨b, by omega, e⟩
theorem c_isKind (x : Int32) (w : rv_W) : rv_EV 0 [.int x] w = some (some (.int (if 0 ≤ x ∧ x ≤ 6 then 1 else 0)), w) := by
  have e : (7 ≤ x) ↔ 6 < x := by
    rw [Int32.le_iff_toInt_le, Int32.lt_iff_toInt_lt, show (7 : Int32).toInt = 7 from rfl, show (6 : Int32).toInt = 6 from rfl]
    omega
  rw [ev_X0_isKind]
  simp only [cb_eq, cb_ne, cb_lt, cb_ge, cb_gt, cb_le, cb_q, cb_qL, ri_s, rl_s, rr_s, rv_s, Option.bind_some, i10, cond_true, cond_false, e]
  by_cases h1 : x < 0
  · rw [if_pos h1, if_neg (fun q => absurd h1 (Int32.not_lt.mpr q.1))]
  · rw [if_neg h1]
    by_cases h2 : 6 < x
    · rw [if_pos h2, if_neg (fun q => absurd h2 (Int32.not_lt.mpr q.2))]
    · rw [if_neg h2, if_pos ⟨Int32.not_lt.mp h1, Int32.not_lt.mp h2⟩]
theorem k_isFull (S : Nat → Nat → Int32) {j : Nat} (hj : j < 3) (s : Nat → Int32) (F : Nat → Nat → Int32) (rb : Nat) : rv_EV 11 [.ref (sp j)] (cR S j s F rb) = some (some (.int (if s 0 < 8 then 0 else 1)), cR S j s F rb) := by
  rw [ev_X2_isFull _ _ (co S hj s F rb)]
  simp only [cb_eq, cb_ne, cb_lt, cb_ge, cb_gt, cb_le, cb_q, cb_qL, ri_s, rl_s, rr_s, rv_s, Option.bind_some, i10, cond_true, cond_false, cg7 S hj]
  by_cases e : s 0 < 8 <;> simp only [e, if_true, if_false]
theorem s_bather {h : Nat} {A : Nat → Nat → Int32} {r : Nat → Int32} {S F : Nat → Nat → Int32} {rb : Nat} {s : Nat → Int32} (R : Rel h A r S F s) (x y : Int32) : Sim h 127 56 [.int x, .int y] A r S F rb s := by
  by_cases g : (0 ≤ x ∧ x ≤ 6) ∧ (0 ≤ y ∧ y < 10)
  · obtain ⟨k, hk, rfl⟩ := ix_le (n := 6) (by decide) g.1.1 g.1.2
    obtain ⟨t, ht, rfl⟩ := ix_rg (n := 10) (by decide) g.2.1 g.2.2
    obtain ⟨n, hn, hs, -, -⟩ := R.1.1
    by_cases h8 : n < 8
    · have hne : ¬ nI n = 8 := fun q => by
        have := (nI_eq (a := n) (b := 8) (by omega) (by decide)).mp q
        omega
      refine sim_r (s' := newB s n (nI k) (nI t) 0 0) (x := nI n) R (Nat.le_refl _) ?_ ?_ (Inv_new R.1 h8 hs (show k < 7 by omega) ht (o := 0) (q := 0) (by decide) (by decide))
      · rw [ev_X5_bather _ _ _ _ (obR A s r)]
        simp only [cb_eq, cb_ne, cb_lt, cb_ge, cb_gt, cb_le, cb_q, cb_qL, ri_s, rl_s, rr_s, rv_s, Option.bind_some, i10, cond_true, cond_false, m_isTub, m_isIn, r_f0, lfR, ldR0, hs, hne, if_false, r_comes A s r h8 hs, (newB_at s n _ _ _ _).1, nI_pred]
        exact if2y g _ _
      · rw [ev_X4_bather _ _ _ _ (obD S 0 s F rb)]
        simp only [cb_eq, cb_ne, cb_lt, cb_ge, cb_gt, cb_le, cb_q, cb_qL, ri_s, rl_s, rr_s, rv_s, Option.bind_some, i10, cond_true, cond_false, lfD0, lfD1, lfD2, lfD3, lfD4, lfD5, lfD6, lgD7, lgD8, sgD7, sgD8, c_isTub, c_isKind, c_f0, k_isFull S h03, hs, show nI n < 8 from nI_lt (a := n) (b := 8) h8 (by decide), if_true, k_addBather S h03 s F rb h8 hs]
        exact if2y g _ _
    · have h8' : n = 8 := by omega
      subst h8'
      refine sim_f R (k := 1) (x := -1000002) (by decide) ?_ ?_
      · rw [ev_X5_bather _ _ _ _ (obR A s r)]
        simp only [cb_eq, cb_ne, cb_lt, cb_ge, cb_gt, cb_le, cb_q, cb_qL, ri_s, rl_s, rr_s, rv_s, Option.bind_some, i10, cond_true, cond_false, m_isTub, m_isIn, r_f0, r_f1, lfR, ldR0, hs, show nI 8 = 8 from rfl, if_true]
        exact if2y g _ _
      · rw [ev_X4_bather _ _ _ _ (obD S 0 s F rb)]
        simp only [cb_eq, cb_ne, cb_lt, cb_ge, cb_gt, cb_le, cb_q, cb_qL, ri_s, rl_s, rr_s, rv_s, Option.bind_some, i10, cond_true, cond_false, lfD0, lfD1, lfD2, lfD3, lfD4, lfD5, lfD6, lgD7, lgD8, sgD7, sgD8, c_isTub, c_isKind, c_f0, c_f1, k_isFull S h03, hs, show ¬ nI 8 < 8 from by decide, if_false, show ¬ (1 : Int32) = 0 from by decide]
        exact if2y g _ _
  · refine sim_f R (k := 0) (x := -1000001) (by decide) ?_ ?_
    · rw [ev_X5_bather _ _ _ _ (obR A s r)]
      simp only [cb_eq, cb_ne, cb_lt, cb_ge, cb_gt, cb_le, cb_q, cb_qL, ri_s, rl_s, rr_s, rv_s, Option.bind_some, i10, cond_true, cond_false, m_isTub, m_isIn, r_f0]
      exact if2n g _ _
    · rw [ev_X4_bather _ _ _ _ (obD S 0 s F rb)]
      simp only [cb_eq, cb_ne, cb_lt, cb_ge, cb_gt, cb_le, cb_q, cb_qL, ri_s, rl_s, rr_s, rv_s, Option.bind_some, i10, cond_true, cond_false, lfD0, lfD1, lfD2, lfD3, lfD4, lfD5, lfD6, lgD7, lgD8, sgD7, sgD8, c_isTub, c_isKind, c_f0]
      exact if2n g _ _
/-! of a bather -/
theorem k_hasBather (S : Nat → Nat → Int32) {j : Nat} (hj : j < 3) (s : Nat → Int32) (F : Nat → Nat → Int32) (rb : Nat) (x : Int32) : rv_EV 10 [.ref (sp j), .int x] (cR S j s F rb) = some (some (.int (if 0 ≤ x ∧ x < s 0 then 1 else 0)), cR S j s F rb) := by
  rw [ev_X2_hasBather _ _ _ (co S hj s F rb)]
  simp only [cb_eq, cb_ne, cb_lt, cb_ge, cb_gt, cb_le, cb_q, cb_qL, ri_s, rl_s, rr_s, rv_s, Option.bind_some, i10, cond_true, cond_false, cg7 S hj]
  by_cases h1 : x < 0
  · rw [if_pos h1, if_neg (fun q => absurd h1 (Int32.not_lt.mpr q.1))]
  · rw [if_neg h1]
    by_cases h2 : s 0 ≤ x
    · rw [if_pos h2, if_neg (fun q => absurd q.2 (Int32.not_lt.mpr h2))]
    · rw [if_neg h2, if_pos ⟨Int32.not_lt.mp h1, Int32.not_le.mp h2⟩]
theorem r_isBather (A : Nat → Nat → Int32) (s r : Nat → Int32) (x : Int32) : rv_EV 113 [.ref 0, .int x] (mR A s r) = some (some (.int (if 0 ≤ x ∧ x < s 0 then 1 else 0)), mR A s r) := m_isBather (upA A 1 s) r x
theorem r_nose (A : Nat → Nat → Int32) (s r : Nat → Int32) {b : Nat} (hb : b < 8) (ok : okB s b) : rv_EV 130 [.ref 0, .int (nI b)] (mR A s r) = some (some (.int (noseS (kdS s b))), mR A s r) := m_nose (upA A 1 s) r hb ok
theorem r_its (A : Nat → Nat → Int32) (s r : Nat → Int32) {b k : Nat} (hb : b < 8) (hk : k < 4) : rv_EV 114 [.ref 0, .int (nI b), .int (nI k)] (mR A s r) = some (some (.int (s (54 + 4 * b + k))), mR A s r) := m_its (upA A 1 s) r hb hk
def ofS (s : Nat → Int32) (b u : Nat) : Int32 := match u with
  | 4 => addS s b
  | 5 => coolS (kdS s b)
  | 6 => noseS (kdS s b)
  | 7 => smlS s b 4
  | _ => s (54 + 4 * b + u)
theorem s_of {h : Nat} {A : Nat → Nat → Int32} {r : Nat → Int32} {S F : Nat → Nat → Int32} {rb : Nat} {s : Nat → Int32} (R : Rel h A r S F s) (x y : Int32) : Sim h 132 57 [.int x, .int y] A r S F rb s := by
  by_cases g : (0 ≤ x ∧ x < s 0) ∧ (0 ≤ y ∧ y ≤ 7)
  · obtain ⟨n, hn, hs, ok, -⟩ := R.1.1
    obtain ⟨b, hb, rfl⟩ := ix_rg (n := n) (by omega) g.1.1 (by rw [← hs]; exact g.1.2)
    obtain ⟨u, hu, rfl⟩ := ix_le (n := 7) (by decide) g.2.1 g.2.2
    have hb8 : b < 8 := by omega
    have okb := ok b hb
    have hu' : u < 1000 := by omega
    refine sim_r (s' := s) (x := ofS s b u) R (Nat.le_refl _) ?_ ?_ R.1
    · rw [ev_X5_of _ _ _ _ (obR A s r)]
      simp only [cb_eq, cb_ne, cb_lt, cb_ge, cb_gt, cb_le, cb_q, cb_qL, ri_s, rl_s, rr_s, rv_s, Option.bind_some, i10, cond_true, cond_false, r_isBather, m_isIn, r_f0, r_adds A s r hb8 okb, r_cools A s r hb8 okb, r_nose A s r hb8 okb, r_smells A s r hb8 okb, sw4 hu', sw5 hu', sw6 hu', sw7 hu']
      refine (if2y g _ _).trans ?_
      rcases (show u < 4 ∨ u = 4 ∨ u = 5 ∨ u = 6 ∨ u = 7 by omega) with h4 | rfl | rfl | rfl | rfl
      · rw [r_its A s r hb8 h4]
        rcases (show u = 0 ∨ u = 1 ∨ u = 2 ∨ u = 3 by omega) with rfl | rfl | rfl | rfl <;> rfl
      all_goals rfl
    · have k1 := okb.1.1
      have k2 := okb.1.2
      rw [ev_X4_of _ _ _ _ (obD S 0 s F rb)]
      simp only [cb_eq, cb_ne, cb_lt, cb_ge, cb_gt, cb_le, cb_q, cb_qL, ri_s, rl_s, rr_s, rv_s, Option.bind_some, i10, cond_true, cond_false, lfD0, lfD1, lfD2, lfD3, lfD4, lfD5, lfD6, lgD7, lgD8, sgD7, sgD8, k_hasBather S h03, c_isWithin, c_f0, cf3 S h03, cf4 S h03, cf5 S h03, cf6 S h03, cl3 S h03 s F rb hb8, cl4 S h03 s F rb hb8, cl5 S h03 s F rb hb8, cl6 S h03 s F rb hb8, k_addsOf S h03 s F rb hb8 okb, k_smelledBy S h03 s F rb hb8 okb, sw0 hu', sw1 hu', sw2 hu', sw3 hu', sw4 hu', sw5 hu', sw6 hu', sw7 hu']
      refine (if2y g _ _).trans ?_
      rcases (show u = 0 ∨ u = 1 ∨ u = 2 ∨ u = 3 ∨ u = 4 ∨ u = 5 ∨ u = 6 ∨ u = 7 by omega) with rfl | rfl | rfl | rfl | rfl | rfl | rfl | rfl
      case inr.inr.inr.inr.inr.inl =>
        rw [k1, k_cools k2]; rfl
      case inr.inr.inr.inr.inr.inr.inl =>
        rw [k1, k_nose k2]; rfl
      all_goals rfl
  · refine sim_f R (k := 0) (x := -1000001) (by decide) ?_ ?_
    · rw [ev_X5_of _ _ _ _ (obR A s r)]
      simp only [cb_eq, cb_ne, cb_lt, cb_ge, cb_gt, cb_le, cb_q, cb_qL, ri_s, rl_s, rr_s, rv_s, Option.bind_some, i10, cond_true, cond_false, r_isBather, m_isIn, r_f0]
      exact if2n g _ _
    · rw [ev_X4_of _ _ _ _ (obD S 0 s F rb)]
      simp only [cb_eq, cb_ne, cb_lt, cb_ge, cb_gt, cb_le, cb_q, cb_qL, ri_s, rl_s, rr_s, rv_s, Option.bind_some, i10, cond_true, cond_false, lfD0, lfD1, lfD2, lfD3, lfD4, lfD5, lfD6, lgD7, lgD8, sgD7, sgD8, k_hasBather S h03, c_isWithin, c_f0]
      exact if2n g _ _
/-! change -/
def mostS (u : Nat) : Int32 := match u with
  | 0 => 6
  | 1 => 9
  | 2 => 3
  | _ => 15
theorem m_greatestOf {u : Nat} (hu : u < 4) (w : rv_W) : rv_EV 133 [.int (nI u)] w = some (some (.int (mostS u)), w) := by
  rw [ev_X5_greatestOf]
  rcases (show u = 0 ∨ u = 1 ∨ u = 2 ∨ u = 3 by omega) with rfl | rfl | rfl | rfl <;> (simp only [cb_eq, cb_ne, cb_lt, cb_ge, cb_gt, cb_le, cb_q, cb_qL, ri_s, rl_s, rr_s, rv_s, Option.bind_some, i10, cond_true, cond_false]; rfl)
theorem c_mostOf {u : Nat} (hu : u < 4) (w : rv_W) : rv_EV 101 [.int (nI u)] w = some (some (.int (mostS u)), w) := by
  have hu' : u < 1000 := by omega
  rw [ev_X4_mostOf]
  simp only [cb_eq, cb_ne, cb_lt, cb_ge, cb_gt, cb_le, cb_q, cb_qL, ri_s, rl_s, rr_s, rv_s, Option.bind_some, i10, cond_true, cond_false, sw0 hu', sw1 hu', sw2 hu']
  rcases (show u = 0 ∨ u = 1 ∨ u = 2 ∨ u = 3 by omega) with rfl | rfl | rfl | rfl <;> rfl
theorem k_rowOf (S : Nat → Nat → Int32) {j : Nat} (hj : j < 3) (s : Nat → Int32) (F : Nat → Nat → Int32) (rb : Nat) {u : Nat} (hu : u < 4) : rv_EV 13 [.ref (sp j), .int (nI u)] (cR S j s F rb) = some (some (.ref (sa j (3 + u))), cR S j s F rb) := by
  have hu' : u < 1000 := by omega
  rw [ev_X2_rowOf _ _ _ (co S hj s F rb)]
  simp only [cb_eq, cb_ne, cb_lt, cb_ge, cb_gt, cb_le, cb_q, cb_qL, ri_s, rl_s, rr_s, rv_s, Option.bind_some, i10, cond_true, cond_false, cf3 S hj, cf4 S hj, cf5 S hj, cf6 S hj, sw0 hu', sw1 hu', sw2 hu']
  rcases (show u = 0 ∨ u = 1 ∨ u = 2 ∨ u = 3 by omega) with rfl | rfl | rfl | rfl <;> rfl
theorem k_rowAt (S : Nat → Nat → Int32) {j : Nat} (hj : j < 3) (s : Nat → Int32) (F : Nat → Nat → Int32) (rb : Nat) {b u : Nat} (hb : b < 8) (hu : u < 4) (x : Int32) : rv_ldI (cR S j s F rb) (sa j (3 + u)) (nI b) = some (s (54 + 4 * b + u)) ∧ rv_stI (cR S j s F rb) (sa j (3 + u)) (nI b) x = some (cR S j (upd s (54 + 4 * b + u) x) F rb) := by
  rcases (show u = 0 ∨ u = 1 ∨ u = 2 ∨ u = 3 by omega) with rfl | rfl | rfl | rfl
  · exact ⟨cl3 S hj s F rb hb, ct3 S hj s F rb hb x⟩
  · exact ⟨cl4 S hj s F rb hb, ct4 S hj s F rb hb x⟩
  · exact ⟨cl5 S hj s F rb hb, ct5 S hj s F rb hb x⟩
  · exact ⟨cl6 S hj s F rb hb, ct6 S hj s F rb hb x⟩
/-- a bather's number changes -/
theorem okB_chg {s : Nat → Int32} {b u v : Nat} (ok : okB s b) (hu : u < 4) (hv : nI v ≤ mostS u) (hv2 : v < 100) : okB (upd s (54 + 4 * b + u) (nI v)) b := by
  obtain ⟨⟨k1, k2⟩, ⟨t1, t2⟩, ⟨o1, o2⟩, ⟨n1, n2⟩⟩ := ok
  have le : ∀ m : Nat, m < 100 → (nI v ≤ nI m ↔ v ≤ m) := fun m hm => nI_leI (by omega) (by omega)
  have cl : (nI v).toNatClampNeg = v := nI_clamp (by omega)
  unfold okB kdS tbS owS knS
  rcases (show u = 0 ∨ u = 1 ∨ u = 2 ∨ u = 3 by omega) with rfl | rfl | rfl | rfl
  · have hv : v ≤ 6 := (le 6 (by decide)).mp hv
    rw [pk_us, pk_un (by omega), pk_un (by omega), pk_un (by omega), cl]
    exact ⟨⟨rfl, by omega⟩, ⟨t1, t2⟩, ⟨o1, o2⟩, ⟨n1, n2⟩⟩
  · have hv : v ≤ 9 := (le 9 (by decide)).mp hv
    rw [pk_us, pk_un (by omega), pk_un (by omega), pk_un (by omega), cl]
    exact ⟨⟨k1, k2⟩, ⟨rfl, by omega⟩, ⟨o1, o2⟩, ⟨n1, n2⟩⟩
  · have hv : v ≤ 3 := (le 3 (by decide)).mp hv
    rw [pk_us, pk_un (by omega), pk_un (by omega), pk_un (by omega), cl]
    exact ⟨⟨k1, k2⟩, ⟨t1, t2⟩, ⟨rfl, by omega⟩, ⟨n1, n2⟩⟩
  · have hv : v ≤ 15 := (le 15 (by decide)).mp hv
    rw [pk_us, pk_un (by omega), pk_un (by omega), pk_un (by omega), cl]
    exact ⟨⟨k1, k2⟩, ⟨t1, t2⟩, ⟨o1, o2⟩, ⟨rfl, by omega⟩⟩
theorem Inv_b {h : Nat} {s : Nat → Int32} (I : Inv h s) {n b u : Nat} (hs : s 0 = nI n) (hn : n ≤ 8) (hb : b < 8) (hu : u < 4) {x : Int32} (ok : b < n → okB (upd s (54 + 4 * b + u) x) b) : Inv h (upd s (54 + 4 * b + u) x) := by
  obtain ⟨⟨n', hn', hs', ok', sps⟩, ⟨t1, ht1, e1⟩, hw, h9⟩ := I
  have en : n' = n := (nI_eq (by omega) (by omega)).mp (hs'.symm.trans hs)
  subst en
  refine ⟨⟨n', hn', by rw [pk_un (by omega)]; exact hs, fun c hc => ?_, fun k hk => by rw [pk_un (by omega)]; exact sps k hk⟩, ⟨t1, ht1, by rw [pk_un (by omega)]; exact e1⟩, ⟨by rw [pk_un (by omega)]; exact hw.1, fun u hu => by rw [pk_un (by omega)]; exact hw.2 u hu⟩, by rw [pk_un (by omega)]; exact h9⟩
  by_cases e : c = b
  · subst e; exact ok hc
  · exact (okB_congr (fun i h1 h2 => pk_un (by omega))).1 (ok' c hc)
theorem mostS_99 (u : Nat) : mostS u ≤ 99 := by unfold mostS; split <;> decide
theorem s_change {h : Nat} {A : Nat → Nat → Int32} {r : Nat → Int32} {S F : Nat → Nat → Int32} {rb : Nat} {s : Nat → Int32} (R : Rel h A r S F s) (x y z : Int32) : Sim h 134 58 [.int x, .int y, .int z] A r S F rb s := by
  by_cases g : (0 ≤ x ∧ x < s 0) ∧ (0 ≤ y ∧ y ≤ 3)
  · obtain ⟨n, hn, hs, ok, -⟩ := R.1.1
    obtain ⟨b, hb, rfl⟩ := ix_rg (n := n) (by omega) g.1.1 (by rw [← hs]; exact g.1.2)
    obtain ⟨u, hu, rfl⟩ := ix_le (n := 3) (by decide) g.2.1 g.2.2
    have hb8 : b < 8 := by omega
    have hu4 : u < 4 := by omega
    by_cases g3 : 0 ≤ z ∧ z ≤ mostS u
    · obtain ⟨v, hv, rfl⟩ := ix_le (n := 99) (by decide) g3.1 (Int32.le_trans g3.2 (mostS_99 u))
      refine sim_r (s' := upd s (54 + 4 * b + u) (nI v)) (x := s (54 + 4 * b + u)) R (Nat.le_refl _) ?_ ?_ (Inv_b R.1 hs hn hb8 hu4 (fun hc => okB_chg (ok b hc) hu4 g3.2 (by omega)))
      · rw [ev_X5_change _ _ _ _ _ (obR A s r)]
        simp only [cb_eq, cb_ne, cb_lt, cb_ge, cb_gt, cb_le, cb_q, cb_qL, ri_s, rl_s, rr_s, rv_s, Option.bind_some, i10, cond_true, cond_false, r_isBather, m_isIn, m_greatestOf hu4, bk_X5_change_39, r_f0, c54_, r_becomes A s r (show 54 + 4 * b + u < 96 by omega), show ¬ (1 : Int32) = 0 from by decide, if_false, if_true]
        exact if3y ⟨g.1, g.2, g3⟩ _ _
      · rw [ev_X4_change _ _ _ _ _ (obD S 0 s F rb)]
        simp only [cb_eq, cb_ne, cb_lt, cb_ge, cb_gt, cb_le, cb_q, cb_qL, ri_s, rl_s, rr_s, rv_s, Option.bind_some, i10, cond_true, cond_false, lfD0, lfD1, lfD2, lfD3, lfD4, lfD5, lfD6, lgD7, lgD8, sgD7, sgD8, k_hasBather S h03, c_isWithin, c_f0, c_mostOf hu4, k_rowOf S h03 s F rb hu4, (k_rowAt S h03 s F rb hb8 hu4 (nI v)).1, (k_rowAt S h03 s F rb hb8 hu4 (nI v)).2]
        exact if3y ⟨g.1, g.2, g3⟩ _ _
    · refine sim_f R (k := 0) (x := -1000001) (by decide) ?_ ?_
      · rw [ev_X5_change _ _ _ _ _ (obR A s r)]
        simp only [cb_eq, cb_ne, cb_lt, cb_ge, cb_gt, cb_le, cb_q, cb_qL, ri_s, rl_s, rr_s, rv_s, Option.bind_some, i10, cond_true, cond_false, r_isBather, m_isIn, m_greatestOf hu4, bk_X5_change_39, r_f0, if_true]
        exact if3n (fun q => g3 q.2.2) _ _
      · rw [ev_X4_change _ _ _ _ _ (obD S 0 s F rb)]
        simp only [cb_eq, cb_ne, cb_lt, cb_ge, cb_gt, cb_le, cb_q, cb_qL, ri_s, rl_s, rr_s, rv_s, Option.bind_some, i10, cond_true, cond_false, lfD0, lfD1, lfD2, lfD3, lfD4, lfD5, lfD6, lgD7, lgD8, sgD7, sgD8, k_hasBather S h03, c_isWithin, c_f0, c_mostOf hu4]
        exact if3n (fun q => g3 q.2.2) _ _
  · refine sim_f R (k := 0) (x := -1000001) (by decide) ?_ ?_
    · rw [ev_X5_change _ _ _ _ _ (obR A s r)]
      simp only [cb_eq, cb_ne, cb_lt, cb_ge, cb_gt, cb_le, cb_q, cb_qL, ri_s, rl_s, rr_s, rv_s, Option.bind_some, i10, cond_true, cond_false, r_isBather, m_isIn, bk_X5_change_39, r_f0, if_true]
      exact if2n g _ _
    · rw [ev_X4_change _ _ _ _ _ (obD S 0 s F rb)]
      simp only [cb_eq, cb_ne, cb_lt, cb_ge, cb_gt, cb_le, cb_q, cb_qL, ri_s, rl_s, rr_s, rv_s, Option.bind_some, i10, cond_true, cond_false, lfD0, lfD1, lfD2, lfD3, lfD4, lfD5, lfD6, lgD7, lgD8, sgD7, sgD8, k_hasBather S h03, c_isWithin, c_f0]
      exact if2n g _ _
