/-! TRIALS: what would be, on both sides -/
theorem cp_ok {b p j : Nat} (A : Nat → Nat → Int32) (f g : Nat → Int32) (h : p = b → f j = g j) : upA A b f p j = upA A b g p j := by
  unfold upA
  by_cases e : p = b
  · rw [if_pos e, if_pos e]; exact h e
  · rw [if_neg e, if_neg e]
theorem m_copy (r : Nat → Int32) {a b : Nat} (hb : 1 ≤ b ∧ b ≤ 4) (hab : ¬ a = b) (Ha : ∀ (A : Nat → Nat → Int32) (j : Nat), j < 96 → rv_ldI (mM A r) a (nI j) = some (A a j)) (Hb : ∀ (A : Nat → Nat → Int32) (j : Nat) (x : Int32), j < 96 → rv_stI (mM A r) b (nI j) x = some (mM (upB A b j x) r)) (A : Nat → Nat → Int32) :
    rv_EV 110 [.ref a, .ref b] (mM A r) = some (none, mM (upA A b (A a)) r) := by
  have st : ∀ k, k ≤ 96 → rv_GO rc_X5_copyRow 2 [some (.ref a), some (.ref b), some (.int 0)] [] (mM A r) = rv_GO rc_X5_copyRow 2 [some (.ref a), some (.ref b), some (.int (nI k))] [] (mM (upA A b (fun i => if i < k then A a i else A b i)) r) := by
    intro k
    induction k with
    | zero =>
      intro _
      rw [show upA A b (fun i => if i < 0 then A a i else A b i) = A by rw [show (fun i => if i < 0 then A a i else A b i) = A b by funext i; simp, upA_self]]
      rfl
    | succ k ih =>
      intro hk
      rw [ih (by omega), bk_X5_copyRow_2]
      simp only [cb_eq, cb_ne, cb_lt, cb_ge, cb_gt, cb_le, cb_q, cb_qL, ri_s, rl_s, rr_s, rv_s, Option.bind_some, i10, cond_true, cond_false, show ¬ (96 : Int32) ≤ nI k from nI_ge (a := k) (b := 96) (by omega) (by decide), if_false, Ha _ k (by omega), Hb _ k _ (show k < 96 by omega), nI_1]
      rw [upB_up, upA_n A hab]
      have e : upd (fun i => if i < k then A a i else A b i) k (A a k) = fun i => if i < k + 1 then A a i else A b i := by
        funext i
        simp only [upd]
        grind
      rw [e]
  rw [ev_X5_copyRow, st 96 (Nat.le_refl _), bk_X5_copyRow_2]
  simp only [cb_eq, cb_ne, cb_lt, cb_ge, cb_gt, cb_le, cb_q, cb_qL, ri_s, rl_s, rr_s, rv_s, Option.bind_some, i10, cond_true, cond_false, show (96 : Int32) ≤ nI 96 from by decide, if_true]
  refine congrArg (fun w => some (none, w)) (mM_congr r ?_ ?_ ?_ ?_ ?_ ?_ ?_ ?_ ?_)
  all_goals exact fun j hj => cp_ok A _ _ (fun e => by first | exact if_pos (by omega) | omega)
theorem upA_comm (A : Nat → Nat → Int32) {p q : Nat} (h : ¬ p = q) (f g : Nat → Int32) : upA (upA A p f) q g = upA (upA A q g) p f := by
  funext i
  unfold upA
  by_cases e1 : i = p
  · by_cases e2 : i = q
    · exact absurd (e1.symm.trans e2) h
    · simp [e1, h]
  · simp [e1]
theorem r_cp14 (A : Nat → Nat → Int32) (s r : Nat → Int32) : rv_EV 110 [.ref 1, .ref 4] (mR A s r) = some (none, mR (upA A 4 s) s r) := by
  have h := m_copy r (a := 1) (b := 4) (by decide) (by decide) (fun A j hj => ldM1 A r hj) (fun A j x hj => stM4 A r hj x) (upA A 1 s)
  unfold mR
  rw [h, upA_s, upA_comm A (by decide)]
theorem r_cp41 (A : Nat → Nat → Int32) (q s r : Nat → Int32) : rv_EV 110 [.ref 4, .ref 1] (mR (upA A 4 q) s r) = some (none, mR (upA A 4 q) q r) := by
  have h := m_copy r (a := 4) (b := 1) (by decide) (by decide) (fun A j hj => ldM4 A r hj) (fun A j x hj => stM1 A r hj x) (upA (upA A 4 q) 1 s)
  unfold mR
  rw [h, upA_upA, upA_n _ (by decide), upA_s]
theorem r_cp13 (A : Nat → Nat → Int32) (s r : Nat → Int32) : rv_EV 110 [.ref 1, .ref 3] (mR A s r) = some (none, mR (upA A 3 s) s r) := by
  have h := m_copy r (a := 1) (b := 3) (by decide) (by decide) (fun A j hj => ldM1 A r hj) (fun A j x hj => stM3 A r hj x) (upA A 1 s)
  unfold mR
  rw [h, upA_s, upA_comm A (by decide)]
theorem r_cp31 (A : Nat → Nat → Int32) (q s r : Nat → Int32) : rv_EV 110 [.ref 3, .ref 1] (mR (upA A 3 q) s r) = some (none, mR (upA A 3 q) q r) := by
  have h := m_copy r (a := 3) (b := 1) (by decide) (by decide) (fun A j hj => ldM3 A r hj) (fun A j x hj => stM1 A r hj x) (upA (upA A 3 q) 1 s)
  unfold mR
  rw [h, upA_upA, upA_n _ (by decide), upA_s]
theorem r_cp12 (A : Nat → Nat → Int32) (s r : Nat → Int32) : rv_EV 110 [.ref 1, .ref 2] (mR A s r) = some (none, mR (upA A 2 s) s r) := by
  have h := m_copy r (a := 1) (b := 2) (by decide) (by decide) (fun A j hj => ldM1 A r hj) (fun A j x hj => stM2 A r hj x) (upA A 1 s)
  unfold mR
  rw [h, upA_s, upA_comm A (by decide)]
theorem r_cp21 (A : Nat → Nat → Int32) (s r : Nat → Int32) : rv_EV 110 [.ref 2, .ref 1] (mR A s r) = some (none, mR A (A 2) r) := by
  have h := m_copy r (a := 2) (b := 1) (by decide) (by decide) (fun A j hj => ldM2 A r hj) (fun A j x hj => stM1 A r hj x) (upA A 1 s)
  unfold mR
  rw [h, upA_upA, upA_n _ (by decide)]
theorem lfR3 (A : Nat → Nat → Int32) (s r : Nat → Int32) : rv_ldFR (mR A s r) 0 4 3 = some 4 := rfl
/-- what is aside, or drafted, is free -/
theorem rel_free {h : Nat} {A : Nat → Nat → Int32} {r : Nat → Int32} {S F : Nat → Nat → Int32} {s : Nat → Int32} (R : Rel h A r S F s) (p q : Nat → Int32) : Rel h (upA A 4 p) r (upA S 2 q) F s := by
  obtain ⟨h1, h2, h3, h4, h5⟩ := R
  exact ⟨h1, h2, h3, h4, h5⟩
theorem rel_aside {h : Nat} {A : Nat → Nat → Int32} {r : Nat → Int32} {S F : Nat → Nat → Int32} {s : Nat → Int32} (R : Rel h A r S F s) (p : Nat → Int32) : Rel h (upA A 4 p) r S F s := by
  obtain ⟨h1, h2, h3, h4, h5⟩ := R
  exact ⟨h1, h2, h3, h4, h5⟩
/-- the class with a draft -/
def cD (S : Nat → Nat → Int32) (s q : Nat → Int32) (F : Nat → Nat → Int32) (rb : Nat) : rv_W := cR (upA S 0 s) 2 q F rb
theorem cD_back (S : Nat → Nat → Int32) (s q : Nat → Int32) (F : Nat → Nat → Int32) (rb : Nat) : cD S s q F rb = cR (upA S 2 q) 0 s F rb := by
  unfold cD cR
  rw [upA_comm S (by decide)]
theorem cR_D (S : Nat → Nat → Int32) (s : Nat → Int32) (F : Nat → Nat → Int32) (rb : Nat) : cR S 0 s F rb = cD S s (S 2) F rb := by
  rw [cD_back, upA_self]
theorem d_take (S : Nat → Nat → Int32) (s q : Nat → Int32) (F : Nat → Nat → Int32) (rb : Nat) : rv_EV 9 [.ref (sp 2), .ref (sp 0)] (cD S s q F rb) = some (none, cD S s s F rb) := by
  unfold cD cR
  rw [k_take (upA (upA S 0 s) 2 q) (i := 0) (j := 2) (by decide) (by decide) (by decide) F rb]
  unfold cR
  rw [upA_upA, upA_n _ (by decide), upA_s]
theorem d_passHours (S : Nat → Nat → Int32) (s q : Nat → Int32) (F : Nat → Nat → Int32) (rb : Nat) {n : Nat} (hn : n ≤ 8) (hs : q 0 = nI n) (ok : okN q n) (hw : wOK q) {h : Nat} (hh : q 1 = nI h) {k : Nat} (hk : h + k ≤ 99999) : rv_EV 20 [.ref (sp 2), .int (nI k)] (cD S s q F rb) = some (none, cD S s (hoursS (q 96) q k) F rb) := k_passHours (upA S 0 s) h23 q F rb hn hs ok hw hh hk
theorem d_passHour (S : Nat → Nat → Int32) (s q : Nat → Int32) (F : Nat → Nat → Int32) (rb : Nat) {n : Nat} (hn : n ≤ 8) (hs : q 0 = nI n) (ok : okN q n) (hw : wOK q) (hh : q 1 + 1 ≤ 99999) : rv_EV 21 [.ref (sp 2)] (cD S s q F rb) = some (none, cD S s (hourS (q 96) q) F rb) := k_passHour (upA S 0 s) h23 q F rb hn hs ok hw hh
theorem dfD0 (S : Nat → Nat → Int32) (s q : Nat → Int32) (F : Nat → Nat → Int32) (rb : Nat) : rv_ldFR (cD S s q F rb) 0 3 0 = some (sp 0) := rfl
theorem dfD2 (S : Nat → Nat → Int32) (s q : Nat → Int32) (F : Nat → Nat → Int32) (rb : Nat) : rv_ldFR (cD S s q F rb) 0 3 2 = some (sp 2) := rfl
theorem dfD3 (S : Nat → Nat → Int32) (s q : Nat → Int32) (F : Nat → Nat → Int32) (rb : Nat) : rv_ldFR (cD S s q F rb) 0 3 3 = some 25 := rfl
theorem obE (S : Nat → Nat → Int32) (s q : Nat → Int32) (F : Nat → Nat → Int32) (rb : Nat) : (rv_obj (cD S s q F rb) 0 3).isSome = true := rfl
/-- both answer, nothing but what is aside or drafted changes -/
theorem sim_t {h : Nat} {km kc : Nat} {as : List Value} {A : Nat → Nat → Int32} {r : Nat → Int32} {S F : Nat → Nat → Int32} {rb : Nat} {s : Nat → Int32} (R : Rel h A r S F s) {x : Int32} (p q : Nat → Int32) (h1 : rv_EV km (.ref 0 :: as) (mR A s r) = some (some (.int x), mR (upA A 4 p) s r)) (h2 : rv_EV kc (.ref 0 :: as) (cD S s (S 2) F rb) = some (some (.int x), cD S s q F rb)) : Sim h km kc as A r S F rb s :=
  ⟨_, _, _, _, _, _, _, h1, by rw [cR_D, h2, cD_back], rel_free R p q, ⟨x, rfl⟩⟩
theorem d_hasBather (S : Nat → Nat → Int32) (s q : Nat → Int32) (F : Nat → Nat → Int32) (rb : Nat) (x : Int32) : rv_EV 10 [.ref (sp 0), .int x] (cD S s q F rb) = some (some (.int (if 0 ≤ x ∧ x < s 0 then 1 else 0)), cD S s q F rb) := by
  rw [cD_back]
  exact k_hasBather (upA S 2 q) h03 s F rb x
theorem s_ahead {h : Nat} {A : Nat → Nat → Int32} {r : Nat → Int32} {S F : Nat → Nat → Int32} {rb : Nat} {s : Nat → Int32} (R : Rel h A r S F s) (hh : h ≤ 30000) (x y z : Int32) : Sim h 146 62 [.int x, .int y, .int z] A r S F rb s := by
  by_cases g : (0 ≤ x ∧ x < 10) ∧ (0 ≤ y ∧ y ≤ 4) ∧ (0 ≤ z ∧ z ≤ 60)
  · obtain ⟨⟨n, hn, hs, ok, sps⟩, ⟨t1, ht1, e1⟩, hw, h9⟩ := R.1
    obtain ⟨t, ht, rfl⟩ := ix_rg (n := 10) (by decide) g.1.1 g.1.2
    obtain ⟨u, hu, rfl⟩ := ix_le (n := 4) (by decide) g.2.1.1 g.2.1.2
    obtain ⟨k, hk, rfl⟩ := ix_le (n := 60) (by decide) g.2.2.1 g.2.2.2
    have hp := d_passHours S s s F rb hn hs ok hw e1 (k := k) (by omega)
    rw [h9] at hp
    have hm := m_hours (upA A 4 s) s r hn hs ok (show k < 2 ^ 31 by omega)
    by_cases h4 : u = 4
    · subst h4
      refine sim_t (x := hoursS 0 s k (4 + t)) R s (hoursS 0 s k) ?_ ?_
      · rw [ev_X5_ahead _ _ _ _ _ (obR A s r)]
        simp only [cb_eq, cb_ne, cb_lt, cb_ge, cb_gt, cb_le, cb_q, cb_qL, ri_s, rl_s, rr_s, rv_s, Option.bind_some, i10, cond_true, cond_false, m_isTub, m_isIn, r_f0, lfR, lfR3, r_cp14, hm, show nI 4 = 4 from rfl, if_true, c4_, ldR (upA A 4 s) (hoursS 0 s k) r (show 4 + t < 96 by omega), bk_X5_ahead_80, r_cp41]
        exact if3y g _ _
      · rw [ev_X4_ahead _ _ _ _ _ (obE S s (S 2) F rb)]
        have hl : rv_ldI (cD S s (hoursS 0 s k) F rb) (sa 2 1) (nI t) = some (hoursS 0 s k (4 + t)) := cl1 (upA S 0 s) h23 _ F rb ht
        have hf : rv_ldFR (cD S s (hoursS 0 s k) F rb) (sp 2) 1 0 = some (sa 2 1) := cf1 (upA S 0 s) h23 _ F rb
        simp only [cb_eq, cb_ne, cb_lt, cb_ge, cb_gt, cb_le, cb_q, cb_qL, ri_s, rl_s, rr_s, rv_s, Option.bind_some, i10, cond_true, cond_false, c_isTub, c_isWithin, dfD0, dfD2, d_take, hp, show nI 4 = 4 from rfl, if_true, hl, hf]
        refine Eq.trans ?_ (if3y g (some (some (Value.int (-1000001)), cD S s (S 2) (cfd F 0) rb)) _)
        rw [← cR_D, c_f0, cR_D]
        rfl
    · have h4' : u < 4 := by omega
      have hne : ¬ nI u = 4 := fun q => h4 ((nI_eq (a := u) (b := 4) (by omega) (by decide)).mp q)
      refine sim_t (x := hoursS 0 s k (14 + 4 * t + u)) R s (hoursS 0 s k) ?_ ?_
      · rw [ev_X5_ahead _ _ _ _ _ (obR A s r)]
        simp only [cb_eq, cb_ne, cb_lt, cb_ge, cb_gt, cb_le, cb_q, cb_qL, ri_s, rl_s, rr_s, rv_s, Option.bind_some, i10, cond_true, cond_false, m_isTub, m_isIn, r_f0, lfR, lfR3, r_cp14, hm, hne, if_false, m_placeOf, ldR (upA A 4 s) (hoursS 0 s k) r (show 14 + 4 * t + u < 96 by omega), bk_X5_ahead_80, r_cp41]
        exact if3y g _ _
      · rw [ev_X4_ahead _ _ _ _ _ (obE S s (S 2) F rb)]
        have hl : rv_EV 15 [.ref (sp 2), .int (nI t), .int (nI u)] (cD S s (hoursS 0 s k) F rb) = some (some (.int (hoursS 0 s k (14 + 4 * t + u))), cD S s (hoursS 0 s k) F rb) := k_scentIn (upA S 0 s) h23 _ F rb ht h4'
        simp only [cb_eq, cb_ne, cb_lt, cb_ge, cb_gt, cb_le, cb_q, cb_qL, ri_s, rl_s, rr_s, rv_s, Option.bind_some, i10, cond_true, cond_false, c_isTub, c_isWithin, dfD0, dfD2, d_take, hp, hne, if_false, hl]
        refine Eq.trans ?_ (if3y g (some (some (Value.int (-1000001)), cD S s (S 2) (cfd F 0) rb)) _)
        rw [← cR_D, c_f0, cR_D]
        rfl
  · refine sim_f R (k := 0) (x := -1000001) (by decide) ?_ ?_
    · rw [ev_X5_ahead _ _ _ _ _ (obR A s r)]
      simp only [cb_eq, cb_ne, cb_lt, cb_ge, cb_gt, cb_le, cb_q, cb_qL, ri_s, rl_s, rr_s, rv_s, Option.bind_some, i10, cond_true, cond_false, m_isTub, m_isIn, r_f0]
      exact if3n g _ _
    · rw [ev_X4_ahead _ _ _ _ _ (obD S 0 s F rb)]
      simp only [cb_eq, cb_ne, cb_lt, cb_ge, cb_gt, cb_le, cb_q, cb_qL, ri_s, rl_s, rr_s, rv_s, Option.bind_some, i10, cond_true, cond_false, lfD0, lfD1, lfD2, lfD3, lfD4, lfD5, lfD6, lgD7, lgD8, sgD7, sgD8, c_isTub, c_isWithin, c_f0]
      exact if3n g _ _
