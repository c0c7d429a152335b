/-! TRIALS, two at a time -/
def fndO (A : Nat → Nat → Int32) : Option Nat → Nat → Nat → Int32
  | none => A
  | some k => fnd A k
def cfdO (F : Nat → Nat → Int32) : Option Nat → Nat → Nat → Int32
  | none => F
  | some k => cfd F k
/-- both answer alike; but for what is aside or drafted, and a finding, all is as it was -/
def Two (A : Nat → Nat → Int32) (r : Nat → Int32) (S F : Nat → Nat → Int32) (rb : Nat) (s : Nat → Int32) (M C : Option (Option Value × rv_W)) : Prop := ∃ (x : Int32) (p q : Nat → Int32) (o : Option Nat), (∀ k, o = some k → k < 7) ∧ M = some (some (.int x), mR (fndO (upA A 4 p) o) s r) ∧ C = some (some (.int x), cD S s q (cfdO F o) rb)
theorem two_n {A : Nat → Nat → Int32} {r : Nat → Int32} {S F : Nat → Nat → Int32} {rb : Nat} {s p q : Nat → Int32} {x : Int32} : Two A r S F rb s (some (some (.int x), mR (upA A 4 p) s r)) (some (some (.int x), cD S s q F rb)) := ⟨x, p, q, none, fun k h => (by cases h), rfl, rfl⟩
theorem two_f {A : Nat → Nat → Int32} {r : Nat → Int32} {S F : Nat → Nat → Int32} {rb : Nat} {s p q : Nat → Int32} {x : Int32} {k : Nat} (hk : k < 7) : Two A r S F rb s (some (some (.int x), mR (fnd (upA A 4 p) k) s r)) (some (some (.int x), cD S s q (cfd F k) rb)) := ⟨x, p, q, some k, fun j h => (by cases h; exact hk), rfl, rfl⟩
theorem sim_two {h : Nat} {km kc : Nat} {as : List Value} {A : Nat → Nat → Int32} {r : Nat → Int32} {S F : Nat → Nat → Int32} {rb : Nat} {s : Nat → Int32} (R : Rel h A r S F s) (H : Two A r S F rb s (rv_EV km (.ref 0 :: as) (mR A s r)) (rv_EV kc (.ref 0 :: as) (cD S s (S 2) F rb))) : Sim h km kc as A r S F rb s := by
  obtain ⟨x, p, q, o, hk, h1, h2⟩ := H
  cases o with
  | none => exact sim_t R p q h1 h2
  | some k => exact sim_tf R (hk k rfl) p q h1 h2
theorem d_changePlaces (S : Nat → Nat → Int32) (s q : Nat → Int32) (F : Nat → Nat → Int32) (rb : Nat) {a b : Nat} (ha : a < 8) (hb : b < 8) : rv_EV 14 [.ref (sp 2), .int (nI a), .int (nI b)] (cD S s q F rb) = some (none, cD S s (swS q a b) F rb) := k_changePlaces (upA S 0 s) h23 q F rb ha hb
theorem dt3 (S : Nat → Nat → Int32) (s q : Nat → Int32) (F : Nat → Nat → Int32) (rb : Nat) {k : Nat} (h : k < 8) (x : Int32) : rv_stI (cD S s q F rb) (sa 2 3) (nI k) x = some (cD S s (upd q (54 + 4 * k) x) F rb) := ct3 (upA S 0 s) h23 q F rb h x
theorem dt4 (S : Nat → Nat → Int32) (s q : Nat → Int32) (F : Nat → Nat → Int32) (rb : Nat) {k : Nat} (h : k < 8) (x : Int32) : rv_stI (cD S s q F rb) (sa 2 4) (nI k) x = some (cD S s (upd q (54 + 4 * k + 1) x) F rb) := ct4 (upA S 0 s) h23 q F rb h x
theorem dt5 (S : Nat → Nat → Int32) (s q : Nat → Int32) (F : Nat → Nat → Int32) (rb : Nat) {k : Nat} (h : k < 8) (x : Int32) : rv_stI (cD S s q F rb) (sa 2 5) (nI k) x = some (cD S s (upd q (54 + 4 * k + 2) x) F rb) := ct5 (upA S 0 s) h23 q F rb h x
theorem dh8 (S : Nat → Nat → Int32) (s q : Nat → Int32) (F : Nat → Nat → Int32) (rb : Nat) (x : Int32) : rv_stF (cD S s q F rb) (sp 2) 1 8 (.int x) = some (cD S s (upd q 2 x) F rb) := ch8 (upA S 0 s) h23 q F rb x
theorem dh11 (S : Nat → Nat → Int32) (s q : Nat → Int32) (F : Nat → Nat → Int32) (rb : Nat) (x : Int32) : rv_stF (cD S s q F rb) (sp 2) 1 11 (.int x) = some (cD S s (upd q 96 x) F rb) := ch11 (upA S 0 s) h23 q F rb x
theorem d_setScent (S : Nat → Nat → Int32) (s q : Nat → Int32) (F : Nat → Nat → Int32) (rb : Nat) {t c : Nat} (ht : t < 10) (hc : c < 4) (x : Int32) : rv_EV 16 [.ref (sp 2), .int (nI t), .int (nI c), .int x] (cD S s q F rb) = some (none, cD S s (upd q (14 + 4 * t + c) x) F rb) := k_setScent (upA S 0 s) h23 q F rb ht hc x
theorem d_scentIn (S : Nat → Nat → Int32) (s q : Nat → Int32) (F : Nat → Nat → Int32) (rb : Nat) {t c : Nat} (ht : t < 10) (hc : c < 4) : rv_EV 15 [.ref (sp 2), .int (nI t), .int (nI c)] (cD S s q F rb) = some (some (.int (q (14 + 4 * t + c))), cD S s q F rb) := k_scentIn (upA S 0 s) h23 q F rb ht hc
theorem d_pullPlug (S : Nat → Nat → Int32) (s q : Nat → Int32) (F : Nat → Nat → Int32) (rb : Nat) {t : Nat} (ht : t < 10) : rv_EV 18 [.ref (sp 2), .int (nI t)] (cD S s q F rb) = some (none, cD S s (pulS q t) F rb) := k_pullPlug (upA S 0 s) h23 q F rb ht
theorem d_tubsBelow (S : Nat → Nat → Int32) (s q : Nat → Int32) (F : Nat → Nat → Int32) (rb : Nat) (v : Int32) : rv_EV 33 [.ref (sp 2), .int v] (cD S s q F rb) = some (some (.int (setB (belB q v) 10)), cD S s q F rb) := k_tubsBelow (upA S 0 s) h23 q F rb v
theorem d_whoKnow (S : Nat → Nat → Int32) (s q : Nat → Int32) (F : Nat → Nat → Int32) (rb : Nat) (c : Int32) {n : Nat} (hn : n ≤ 8) (hs : q 0 = nI n) : rv_EV 29 [.ref (sp 2), .int c] (cD S s q F rb) = some (some (.int (setB (knB q c) n)), cD S s q F rb) := k_whoKnow (upA S 0 s) h23 q F rb c hn hs
theorem dg7 (S : Nat → Nat → Int32) (s q : Nat → Int32) (F : Nat → Nat → Int32) (rb : Nat) : rv_ldFI (cD S s q F rb) (sp 0) 1 7 = some (s 0) := by
  rw [cD_back]
  exact cg7 (upA S 2 q) h03 s F rb
/-- hours of a row that is good, on both sides -/
theorem t_hours {h : Nat} {q : Nat → Int32} (I : Inv h q) (A : Nat → Nat → Int32) (r : Nat → Int32) {k : Nat} (hk : k < 2 ^ 31) : rv_EV 139 [.ref 0, .int (nI k)] (mR A q r) = some (none, mR A (hoursS 0 q k) r) := by
  obtain ⟨⟨n, hn, hs, ok, -⟩, -⟩ := I
  exact m_hours A q r hn hs ok hk
theorem t_passH {h : Nat} {q : Nat → Int32} (I : Inv h q) (S : Nat → Nat → Int32) (s : Nat → Int32) (F : Nat → Nat → Int32) (rb : Nat) {k : Nat} (hk : h + k ≤ 99999) : rv_EV 20 [.ref (sp 2), .int (nI k)] (cD S s q F rb) = some (none, cD S s (hoursS 0 q k) F rb) := by
  obtain ⟨⟨n, hn, hs, ok, -⟩, ⟨t1, ht1, e1⟩, hw, h9⟩ := I
  have := d_passHours S s q F rb hn hs ok hw e1 (k := k) (by omega)
  rwa [h9] at this
theorem t_kn {h : Nat} {q : Nat → Int32} (I : Inv h q) {n : Nat} (hs : q 0 = nI n) (hn : n ≤ 8) (k : Nat) {b : Nat} (hb : b < n) : ∃ m, m < 16 ∧ hoursS 0 q k (54 + 4 * b + 3) = nI m := by
  obtain ⟨⟨n', hn', hs', ok, -⟩, -⟩ := I
  have en : n' = n := (nI_eq (by omega) (by omega)).mp (hs'.symm.trans hs)
  subst en
  obtain ⟨h1, h2⟩ := hoursS_ok (gone := 0) hn hs ok k
  obtain ⟨-, -, -, ⟨a, b⟩⟩ := h1 b hb
  exact ⟨_, b, a⟩
theorem r_knownIn {h : Nat} {q : Nat → Int32} (I : Inv h q) (A : Nat → Nat → Int32) (r : Nat → Int32) {b k : Nat} (hb : b < 8) (hk : k < 2 ^ 31) : rv_EV 147 [.ref 0, .int (nI b), .int (nI k)] (mR A q r) = some (some (.int (hoursS 0 q k (54 + 4 * b + 3))), mR (upA A 4 q) q r) := by
  rw [ev_X5_knownIn _ _ _ _ (obR A q r)]
  simp only [cb_eq, cb_ne, cb_lt, cb_ge, cb_gt, cb_le, cb_q, cb_qL, ri_s, rl_s, rr_s, rv_s, Option.bind_some, i10, cond_true, cond_false, lfR, lfR3, r_cp14, t_hours I (upA A 4 q) r hk, r_its3 (upA A 4 q) (hoursS 0 q k) r hb, r_cp41]
theorem swS_sw (s : Nat → Int32) {a b : Nat} (hab : ¬ a = b) : swS (swS s a b) a b = s := by
  funext i
  have e1 : ∀ q, swS q a b (54 + 4 * a + 1) = q (54 + 4 * b + 1) := fun q => by unfold swS; rw [pk_un (by omega), pk_us]
  have e2 : ∀ q, swS q a b (54 + 4 * b + 1) = q (54 + 4 * a + 1) := fun q => by unfold swS; rw [pk_us]
  by_cases h1 : i = 54 + 4 * a + 1
  · subst h1
    rw [e1, e2]
  · by_cases h2 : i = 54 + 4 * b + 1
    · subst h2
      rw [e2, e1]
    · rw [swS_out _ h1 h2, swS_out _ h1 h2]
/-! swapFor -/
theorem s_swapFor {h : Nat} {A : Nat → Nat → Int32} {r : Nat → Int32} {S F : Nat → Nat → Int32} {rb : Nat} {s : Nat → Int32} (R : Rel h A r S F s) (hh : h ≤ 30000) (x y : Int32) : Sim h 155 68 [.int x, .int y] A r S F rb s := by
  by_cases g : (0 ≤ x ∧ x < s 0) ∧ (0 ≤ y ∧ y ≤ 40)
  · obtain ⟨n, hn, hs, ok, -⟩ := R.1.1
    obtain ⟨b, hb, rfl⟩ := ix_rg (n := n) (by omega) g.1.1 (by rw [← hs]; exact g.1.2)
    obtain ⟨k, hk, rfl⟩ := ix_le (n := 40) (by decide) g.2.1 g.2.2
    have hb8 : b < 8 := by omega
    have L : ∀ (d o : Nat) (best most : Int32) (p q : Nat → Int32), o + d = n → (best = -1 ∨ ∃ i, i < 8 ∧ best = nI i) → Two A r S F rb s (rv_GO rc_X5_swapFor 35 [some (.ref 0), some (.int (nI b)), some (.int (nI k)), some (.int best), some (.int most), some (.int (nI o)), none, none] [] (mR (upA A 4 p) s r)) (rv_GO rc_X4_swapFor 34 [some (.ref 0), some (.int (nI b)), some (.int (nI k)), some (.int best), some (.int most), some (.int (nI o)), none] [] (cD S s q F rb)) := by
      intro d
      induction d with
      | zero =>
        intro o best most p q ho hbest
        have ho : o = n := by omega
        subst ho
        rw [bk_X5_swapFor_35, bk_X4_swapFor_34]
        simp only [cb_eq, cb_ne, cb_lt, cb_ge, cb_gt, cb_le, cb_q, cb_qL, ri_s, rl_s, rr_s, rv_s, Option.bind_some, i10, cond_true, cond_false, lfR, ldR0, hs, Int32.le_refl, if_true, r_orNone, dfD0, dg7, d_f3]
        rcases hbest with rfl | ⟨i, hi, rfl⟩
        · simp only [show ¬ (0 : Int32) ≤ -1 from by decide, if_true, if_false, cb_eq, cb_ne, cb_lt, cb_ge, cb_gt, cb_le, cb_q, cb_qL, ri_s, rl_s, rr_s, rv_s, Option.bind_some, i10, cond_true, cond_false]
          exact two_f (by decide)
        · have nn : (0 : Int32) ≤ nI i := nI_pos' (by omega)
          simp only [nn, show ¬ nI i = -1 from fun q => m1_nn q nn, if_true, if_false, cb_eq, cb_ne, cb_lt, cb_ge, cb_gt, cb_le, cb_q, cb_qL, ri_s, rl_s, rr_s, rv_s, Option.bind_some, i10, cond_true, cond_false]
          exact two_n
      | succ d ih =>
        intro o best most p q ho hbest
        have hon : o < n := by omega
        have ho8 : o < 8 := by omega
        by_cases e : o = b
        · subst e
          rw [bk_X5_swapFor_35, bk_X4_swapFor_34]
          simp only [cb_eq, cb_ne, cb_lt, cb_ge, cb_gt, cb_le, cb_q, cb_qL, ri_s, rl_s, rr_s, rv_s, Option.bind_some, i10, cond_true, cond_false, lfR, ldR0, hs, ge0_8 hn hon, if_false, if_true, dfD0, dg7, nI_1]
          exact ih (o + 1) best most p q (by omega) hbest
        · have e' : ¬ b = o := fun q => e q.symm
          have I' := Inv_sw R.1 hn hs hb hon e'
          have hs' : swS s b o 0 = nI n := by rw [swS_out s (by omega) (by omega)]; exact hs
          obtain ⟨m, hm, em⟩ := t_kn I' hs' hn k hb
          have ne : ¬ nI o = nI b := fun q => e ((nI_eq (by omega) (by omega)).mp q)
          have rk := r_knownIn I' (upA A 4 p) r hb8 (show k < 2 ^ 31 by omega)
          rw [em] at rk
          rw [bk_X5_swapFor_35, bk_X4_swapFor_34]
          simp only [cb_eq, cb_ne, cb_lt, cb_ge, cb_gt, cb_le, cb_q, cb_qL, ri_s, rl_s, rr_s, rv_s, Option.bind_some, i10, cond_true, cond_false, lfR, ldR0, hs, ge0_8 hn hon, if_false, if_true, dfD0, dfD2, dg7, ne, r_swaps _ _ r hb8 ho8 e', rk, upA_upA, m_many (show m < 256 by omega), swS_sw s e', bk_X5_swapFor_94, d_take, d_changePlaces S s s F rb hb8 ho8, t_passH I' S s F rb (show h + k ≤ 99999 by omega), df6, dl6 S s _ F rb hb8, em, k_bitCount (show m < 256 by omega), nI_1]
          by_cases le : nI (popS m) ≤ most
          · simp only [le, if_true]
            exact ih (o + 1) best most _ _ (by omega) hbest
          · simp only [le, if_false]
            exact ih (o + 1) (nI o) _ _ _ (by omega) (Or.inr ⟨o, ho8, rfl⟩)
    have l0 := L n 0 (-1) (-1) (A 4) (S 2) (by omega) (Or.inl rfl)
    rw [upA_self, nI_0] at l0
    refine sim_two R ?_
    rw [ev_X5_swapFor _ _ _ _ (obR A s r), ev_X4_swapFor _ _ _ _ (obE S s (S 2) F rb)]
    simp only [cb_eq, cb_ne, cb_lt, cb_ge, cb_gt, cb_le, cb_q, cb_qL, ri_s, rl_s, rr_s, rv_s, Option.bind_some, i10, cond_true, cond_false, r_isBather, m_isIn, r_f0, d_hasBather, c_isWithin, dfD0, d_f0]
    rw [if2y g, if2y g]
    exact l0
  · refine sim_f R (k := 0) (x := -1000001) (by decide) ?_ ?_
    · rw [ev_X5_swapFor _ _ _ _ (obR A s r)]
      simp only [cb_eq, cb_ne, cb_lt, cb_ge, cb_gt, cb_le, cb_q, cb_qL, ri_s, rl_s, rr_s, rv_s, Option.bind_some, i10, cond_true, cond_false, r_isBather, m_isIn, r_f0]
      exact if2n g _ _
    · rw [ev_X4_swapFor _ _ _ _ (obD S 0 s F rb)]
      simp only [cb_eq, cb_ne, cb_lt, cb_ge, cb_gt, cb_le, cb_q, cb_qL, ri_s, rl_s, rr_s, rv_s, Option.bind_some, i10, cond_true, cond_false, lfD0, lfD1, lfD2, lfD3, lfD4, lfD5, lfD6, lgD7, lgD8, sgD7, sgD8, k_hasBather S h03, c_isWithin, c_f0]
      exact if2n g _ _
/-! kindFor -/
theorem upd_upd (s : Nat → Int32) (i : Nat) (x y : Int32) : upd (upd s i x) i y = upd s i y := by
  funext j
  simp only [upd]
  by_cases e : j = i <;> simp [e]
theorem upd_self (s : Nat → Int32) (i : Nat) : upd s i (s i) = s := by
  funext j
  simp only [upd]
  by_cases e : j = i <;> simp [e]
theorem Inv_bu {h : Nat} {s : Nat → Int32} (I : Inv h s) {n b u v : Nat} (hs : s 0 = nI n) (hn : n ≤ 8) (ok : okN s n) (hb : b < n) (hu : u < 4) (hv : nI v ≤ mostS u) (hv2 : v < 100) : Inv h (upd s (54 + 4 * b + u) (nI v)) := Inv_b I hs hn (by omega) hu (fun hc => okB_chg (ok b hc) hu hv hv2)
theorem s_kindFor {h : Nat} {A : Nat → Nat → Int32} {r : Nat → Int32} {S F : Nat → Nat → Int32} {rb : Nat} {s : Nat → Int32} (R : Rel h A r S F s) (hh : h ≤ 30000) (x y : Int32) : Sim h 157 70 [.int x, .int y] A r S F rb s := by
  by_cases g : (0 ≤ x ∧ x < s 0) ∧ (0 ≤ y ∧ y ≤ 40)
  · obtain ⟨n, hn, hs, ok, -⟩ := R.1.1
    obtain ⟨b, hb, rfl⟩ := ix_rg (n := n) (by omega) g.1.1 (by rw [← hs]; exact g.1.2)
    obtain ⟨k, hk, rfl⟩ := ix_le (n := 40) (by decide) g.2.1 g.2.2
    have hb8 : b < 8 := by omega
    have L : ∀ (d o : Nat) (best most z : Int32) (p q : Nat → Int32), o + d = 7 → Two A r S F rb s (rv_GO rc_X5_kindFor 51 [some (.ref 0), some (.int (nI b)), some (.int (nI k)), some (.int (nI (54 + 4 * b))), some (.int (s (54 + 4 * b))), some (.int best), some (.int most), some (.int (nI o)), none] [] (mR (upA A 4 p) (upd s (54 + 4 * b) z) r)) (rv_GO rc_X4_kindFor 34 [some (.ref 0), some (.int (nI b)), some (.int (nI k)), some (.int best), some (.int most), some (.int (nI o)), none] [] (cD S s q F rb)) := by
      intro d
      induction d with
      | zero =>
        intro o best most z p q ho
        have ho : o = 7 := by omega
        subst ho
        rw [bk_X5_kindFor_51, bk_X4_kindFor_34]
        simp only [cb_eq, cb_ne, cb_lt, cb_ge, cb_gt, cb_le, cb_q, cb_qL, ri_s, rl_s, rr_s, rv_s, Option.bind_some, i10, cond_true, cond_false, lfR, show (6 : Int32) < nI 7 from by decide, show (7 : Int32) ≤ nI 7 from by decide, if_true, stR _ _ r (show 54 + 4 * b < 96 by omega), upd_upd, upd_self]
        exact two_n
      | succ d ih =>
        intro o best most z p q ho
        have I' : Inv h (upd s (54 + 4 * b) (nI o)) := Inv_bu R.1 (u := 0) hs hn ok hb (by decide) (nI_le (a := o) (b := 6) (by omega) (by decide)) (by omega)
        have hs' : upd s (54 + 4 * b) (nI o) 0 = nI n := by rw [pk_un (by omega)]; exact hs
        obtain ⟨m, hm, em⟩ := t_kn I' hs' hn k hb
        have rk := r_knownIn I' (upA A 4 p) r hb8 (show k < 2 ^ 31 by omega)
        rw [em] at rk
        rw [bk_X5_kindFor_51, bk_X4_kindFor_34]
        simp only [cb_eq, cb_ne, cb_lt, cb_ge, cb_gt, cb_le, cb_q, cb_qL, ri_s, rl_s, rr_s, rv_s, Option.bind_some, i10, cond_true, cond_false, lfR, show ¬ (6 : Int32) < nI o from nI_nlt (a := 6) (b := o) (by omega) (by decide), show ¬ (7 : Int32) ≤ nI o from nI_ge (a := o) (b := 7) (by omega) (by decide), if_false, stR _ _ r (show 54 + 4 * b < 96 by omega), upd_upd, rk, upA_upA, m_many (show m < 256 by omega), bk_X5_kindFor_91, dfD0, dfD2, d_take, df3, dt3 S s s F rb hb8, t_passH I' S s F rb (show h + k ≤ 99999 by omega), df6, dl6 S s _ F rb hb8, em, k_bitCount (show m < 256 by omega), nI_1]
        by_cases le : nI (popS m) ≤ most
        · simp only [le, if_true]
          exact ih (o + 1) best most _ _ _ (by omega)
        · simp only [le, if_false]
          exact ih (o + 1) (nI o) _ _ _ _ (by omega)
    have l0 := L 7 0 0 (-1) (s (54 + 4 * b)) (A 4) (S 2) (by omega)
    rw [upA_self, nI_0, upd_self] at l0
    refine sim_two R ?_
    rw [ev_X5_kindFor _ _ _ _ (obR A s r), ev_X4_kindFor _ _ _ _ (obE S s (S 2) F rb)]
    simp only [cb_eq, cb_ne, cb_lt, cb_ge, cb_gt, cb_le, cb_q, cb_qL, ri_s, rl_s, rr_s, rv_s, Option.bind_some, i10, cond_true, cond_false, r_isBather, m_isIn, r_f0, d_hasBather, c_isWithin, dfD0, d_f0, lfR, c54a, ldR A s r (show 54 + 4 * b < 96 by omega)]
    rw [if2y g, if2y g]
    exact l0
  · refine sim_f R (k := 0) (x := -1000001) (by decide) ?_ ?_
    · rw [ev_X5_kindFor _ _ _ _ (obR A s r)]
      simp only [cb_eq, cb_ne, cb_lt, cb_ge, cb_gt, cb_le, cb_q, cb_qL, ri_s, rl_s, rr_s, rv_s, Option.bind_some, i10, cond_true, cond_false, r_isBather, m_isIn, r_f0]
      exact if2n g _ _
    · rw [ev_X4_kindFor _ _ _ _ (obD S 0 s F rb)]
      simp only [cb_eq, cb_ne, cb_lt, cb_ge, cb_gt, cb_le, cb_q, cb_qL, ri_s, rl_s, rr_s, rv_s, Option.bind_some, i10, cond_true, cond_false, lfD0, lfD1, lfD2, lfD3, lfD4, lfD5, lfD6, lgD7, lgD8, sgD7, sgD8, k_hasBather S h03, c_isWithin, c_f0]
      exact if2n g _ _
/-! seat -/
theorem untS_le (P : Nat → Bool) : ∀ (D E k : Nat), D ≤ E → untS P D k = (match untS P E k with | some m => if m < k + D then some m else none | none => none)
  | 0, E, k, _ => by
    rw [untS]
    cases h : untS P E k with
    | none => rfl
    | some m =>
      have := untS_lt h
      simp only []
      rw [if_neg (by omega)]
  | D + 1, 0, k, h => by omega
  | D + 1, E + 1, k, h => by
    rw [untS, untS]
    by_cases e : P k = true
    · rw [if_pos e, if_pos e]
      simp only []
      rw [if_pos (by omega)]
    · rw [if_neg e, if_neg e, untS_le P D E (k + 1) (by omega), show k + 1 + D = k + (D + 1) by omega]
theorem s_seat {h : Nat} {A : Nat → Nat → Int32} {r : Nat → Int32} {S F : Nat → Nat → Int32} {rb : Nat} {s : Nat → Int32} (R : Rel h A r S F s) (hh : h ≤ 30000) (x c : Int32) : Sim h 156 69 [.int x, .int c] A r S F rb s := by
  by_cases g : (0 ≤ x ∧ x < s 0) ∧ (0 ≤ c ∧ c < 4)
  · obtain ⟨n, hn, hs, ok, -⟩ := R.1.1
    obtain ⟨b, hb, rfl⟩ := ix_rg (n := n) (by omega) g.1.1 (by rw [← hs]; exact g.1.2)
    have hb8 : b < 8 := by omega
    have L : ∀ (d o : Nat) (best z : Int32) (D : Nat) (p q : Nat → Int32), o + d = 10 → D ≤ 61 → (best = -1 ∨ ∃ i, i < 10 ∧ best = nI i) → Two A r S F rb s (rv_GO rc_X5_seat 49 [some (.ref 0), some (.int (nI b)), some (.int c), some (.int (nI (54 + 4 * b + 1))), some (.int (s (54 + 4 * b + 1))), some (.int best), some (.int (nI D)), some (.int (nI o)), none, none] [] (mR (upA A 4 p) (upd s (54 + 4 * b + 1) z) r)) (rv_GO rc_X4_seat 33 [some (.ref 0), some (.int (nI b)), some (.int c), some (.int best), some (.int (nI D)), some (.int (nI o)), none] [] (cD S s q F rb)) := by
      intro d
      induction d with
      | zero =>
        intro o best z D p q ho hD hbest
        have ho : o = 10 := by omega
        subst ho
        rw [bk_X5_seat_49, bk_X4_seat_33]
        simp only [cb_eq, cb_ne, cb_lt, cb_ge, cb_gt, cb_le, cb_q, cb_qL, ri_s, rl_s, rr_s, rv_s, Option.bind_some, i10, cond_true, cond_false, lfR, show (10 : Int32) ≤ nI 10 from by decide, if_true, stR _ _ r (show 54 + 4 * b + 1 < 96 by omega), upd_upd, upd_self, r_orNone, d_f3]
        rcases hbest with rfl | ⟨i, hi, rfl⟩
        · simp only [show ¬ (0 : Int32) ≤ -1 from by decide, if_false, cb_eq, cb_ne, cb_lt, cb_ge, cb_gt, cb_le, cb_q, cb_qL, ri_s, rl_s, rr_s, rv_s, Option.bind_some, i10, cond_true, cond_false]
          exact two_f (by decide)
        · have nn : (0 : Int32) ≤ nI i := nI_pos' (by omega)
          simp only [nn, if_true, cb_eq, cb_ne, cb_lt, cb_ge, cb_gt, cb_le, cb_q, cb_qL, ri_s, rl_s, rr_s, rv_s, Option.bind_some, i10, cond_true, cond_false]
          exact two_n
      | succ d ih =>
        intro o best z D p q ho hD hbest
        have I' : Inv h (upd s (54 + 4 * b + 1) (nI o)) := Inv_bu R.1 (u := 1) hs hn ok hb (by decide) (nI_le (a := o) (b := 9) (by omega) (by decide)) (by omega)
        obtain ⟨⟨n', hn', hs', ok', -⟩, ⟨t1, ht1, e1⟩, hw', h9'⟩ := I'
        obtain ⟨q', hq'⟩ := d_until S s (upd s (54 + 4 * b + 1) (nI o)) F rb hn' hs' ok' hw' e1 (by omega) h9' hb8 c hD
        have rs := r_soonest (upA A 4 p) (upd s (54 + 4 * b + 1) (nI o)) r hn' hs' ok' hb8 c
        rw [untS_le _ D 61 0 hD] at hq'
        rw [bk_X5_seat_49, bk_X4_seat_33]
        simp only [cb_eq, cb_ne, cb_lt, cb_ge, cb_gt, cb_le, cb_q, cb_qL, ri_s, rl_s, rr_s, rv_s, Option.bind_some, i10, cond_true, cond_false, lfR, show ¬ (10 : Int32) ≤ nI o from nI_ge (a := o) (b := 10) (by omega) (by decide), if_false, stR _ _ r (show 54 + 4 * b + 1 < 96 by omega), upd_upd, rs, upA_upA, dfD0, dfD2, d_take, df4, dt4 S s s F rb hb8, hq', bk_X5_seat_89, bk_X5_seat_103, nI_1]
        cases hu : untS (knwP (upd s (54 + 4 * b + 1) (nI o)) b c) 61 0 with
        | none =>
          simp only [show (-1 : Int32) < 0 from by decide, if_true]
          exact ih (o + 1) best _ D _ _ (by omega) hD hbest
        | some m =>
          have hm := untS_lt hu
          have nn : ¬ nI m < 0 := Int32.not_lt.mpr (nI_pos' (by omega))
          by_cases le : m < 0 + D
          · simp only [le, if_true, nn, if_false, show ¬ nI D ≤ nI m from nI_ge (by omega) (by omega), show ¬ (1 : Int32) = 0 from by decide]
            exact ih (o + 1) (nI o) _ m _ _ (by omega) (by omega) (Or.inr ⟨o, by omega, rfl⟩)
          · simp only [le, if_false, nn, show nI D ≤ nI m from nI_le (by omega) (by omega), if_true, show (-1 : Int32) < 0 from by decide]
            exact ih (o + 1) best _ D _ _ (by omega) hD hbest
    have l0 := L 10 0 (-1) (s (54 + 4 * b + 1)) 61 (A 4) (S 2) (by omega) (by omega) (Or.inl rfl)
    rw [upA_self, nI_0, upd_self, show nI 61 = 61 from rfl] at l0
    refine sim_two R ?_
    have e54 : (54 + (4 * nI b)) + 1 = nI (54 + 4 * b + 1) := c54_ b 1
    rw [ev_X5_seat _ _ _ _ (obR A s r), ev_X4_seat _ _ _ _ (obE S s (S 2) F rb)]
    simp only [cb_eq, cb_ne, cb_lt, cb_ge, cb_gt, cb_le, cb_q, cb_qL, ri_s, rl_s, rr_s, rv_s, Option.bind_some, i10, cond_true, cond_false, r_isBather, m_isScent, r_f0, d_hasBather, c_isScent, dfD0, d_f0, lfR, e54, ldR A s r (show 54 + 4 * b + 1 < 96 by omega)]
    rw [if2y g, if2y g]
    exact l0
  · refine sim_f R (k := 0) (x := -1000001) (by decide) ?_ ?_
    · rw [ev_X5_seat _ _ _ _ (obR A s r)]
      simp only [cb_eq, cb_ne, cb_lt, cb_ge, cb_gt, cb_le, cb_q, cb_qL, ri_s, rl_s, rr_s, rv_s, Option.bind_some, i10, cond_true, cond_false, r_isBather, m_isScent, r_f0]
      exact if2n g _ _
    · rw [ev_X4_seat _ _ _ _ (obD S 0 s F rb)]
      simp only [cb_eq, cb_ne, cb_lt, cb_ge, cb_gt, cb_le, cb_q, cb_qL, ri_s, rl_s, rr_s, rv_s, Option.bind_some, i10, cond_true, cond_false, lfD0, lfD1, lfD2, lfD3, lfD4, lfD5, lfD6, lgD7, lgD8, sgD7, sgD8, k_hasBather S h03, c_isScent, c_f0]
      exact if2n g _ _
/-! freshFor -/
def colS (q : Nat → Int32) : Nat → Int32
  | 0 => q 4
  | k + 1 => if q (4 + (k + 1)) < colS q k then q (4 + (k + 1)) else colS q k
theorem r_coldest (A : Nat → Nat → Int32) (s r : Nat → Int32) : rv_EV 158 [.ref 0] (mR A s r) = some (some (.int (colS s 9)), mR A s r) := by
  have w4 : rv_ldI (mR A s r) 1 4 = some (s 4) := ldR A s r (j := 4) (by decide)
  have st : ∀ k, k ≤ 9 → rv_GO rc_X5_coldest 9 [some (.ref 0), some (.int (s 4)), some (.int 1)] [] (mR A s r) = rv_GO rc_X5_coldest 9 [some (.ref 0), some (.int (colS s k)), some (.int (nI (k + 1)))] [] (mR A s r) := by
    intro k
    induction k with
    | zero => intro _; rfl
    | succ k ih =>
      intro hk
      rw [ih (by omega), bk_X5_coldest_9]
      simp only [cb_eq, cb_ne, cb_lt, cb_ge, cb_gt, cb_le, cb_q, cb_qL, ri_s, rl_s, rr_s, rv_s, Option.bind_some, i10, cond_true, cond_false, lfR, c4_, show ¬ (10 : Int32) ≤ nI (k + 1) from nI_ge (a := k + 1) (b := 10) (by omega) (by decide), if_false, ldR A s r (show 4 + (k + 1) < 96 by omega), nI_1, colS]
      by_cases e : s (4 + (k + 1)) < colS s k
      · rw [if_neg (Int32.not_le.mpr e), if_pos e]
      · rw [if_pos (Int32.not_lt.mp e), if_neg e]
  rw [ev_X5_coldest _ _ (obR A s r)]
  simp only [cb_eq, cb_ne, cb_lt, cb_ge, cb_gt, cb_le, cb_q, cb_qL, ri_s, rl_s, rr_s, rv_s, Option.bind_some, i10, cond_true, cond_false, lfR, w4]
  rw [st 9 (Nat.le_refl _), bk_X5_coldest_9]
  simp only [cb_eq, cb_ne, cb_lt, cb_ge, cb_gt, cb_le, cb_q, cb_qL, ri_s, rl_s, rr_s, rv_s, Option.bind_some, i10, cond_true, cond_false, show (10 : Int32) ≤ nI (9 + 1) from by decide, if_true]
theorem colS_lt (q : Nat → Int32) (v : Int32) : ∀ k, colS q k < v ↔ ∃ t, t ≤ k ∧ q (4 + t) < v
  | 0 => by
    constructor
    · intro h; exact ⟨0, by omega, h⟩
    · rintro ⟨t, ht, h⟩
      have : t = 0 := by omega
      subst this; exact h
  | k + 1 => by
    rw [colS]
    by_cases e : q (4 + (k + 1)) < colS q k
    · rw [if_pos e]
      constructor
      · intro h; exact ⟨k + 1, by omega, h⟩
      · rintro ⟨t, ht, h⟩
        by_cases e2 : t = k + 1
        · subst e2; exact h
        · exact Int32.lt_trans e ((colS_lt q v k).mpr ⟨t, by omega, h⟩)
    · rw [if_neg e, colS_lt q v k]
      constructor
      · rintro ⟨t, ht, h⟩; exact ⟨t, by omega, h⟩
      · rintro ⟨t, ht, h⟩
        by_cases e2 : t = k + 1
        · subst e2
          exact (colS_lt q v k).mp (Int32.lt_of_le_of_lt (Int32.not_lt.mp e) h)
        · exact ⟨t, by omega, h⟩
theorem colS_bel (q : Nat → Int32) (v : Int32) : (setB (belB q v) 10 = 0) = ¬ colS q 9 < v := by
  rw [colS_lt]
  refine propext ⟨fun h => ?_, fun h => ?_⟩
  · rintro ⟨t, ht, e⟩
    have := (setB_0 (by decide)).mp h t (by omega)
    simp [belB, e] at this
  · refine (setB_0 (by decide)).mpr fun t ht => ?_
    simp only [belB, decide_eq_false_iff_not]
    exact fun e => h ⟨t, by omega, e⟩
theorem s_freshFor {h : Nat} {A : Nat → Nat → Int32} {r : Nat → Int32} {S F : Nat → Nat → Int32} {rb : Nat} {s : Nat → Int32} (R : Rel h A r S F s) (hh : h ≤ 30000) (v y : Int32) : Sim h 159 71 [.int v, .int y] A r S F rb s := by
  by_cases g : (0 ≤ v ∧ v ≤ 99) ∧ (0 ≤ y ∧ y ≤ 40)
  · obtain ⟨k, hk, rfl⟩ := ix_le (n := 40) (by decide) g.2.1 g.2.2
    have w2 : ∀ (A : Nat → Nat → Int32) (q : Nat → Int32) (x : Int32), rv_stI (mR A q r) 1 2 x = some (mR A (upd q 2 x) r) := fun A q x => stR A q r (j := 2) (by decide) x
    have L : ∀ (d o : Nat) (p q : Nat → Int32), o + d = 100 → Two A r S F rb s (rv_GO rc_X5_freshFor 36 [some (.ref 0), some (.int v), some (.int (nI k)), some (.int (-1)), some (.int (nI o))] [] (mR (upA A 4 p) s r)) (rv_GO rc_X4_freshFor 26 [some (.ref 0), some (.int v), some (.int (nI k)), some (.int (nI o))] [] (cD S s q F rb)) := by
      intro d
      induction d with
      | zero =>
        intro o p q ho
        have ho : o = 100 := by omega
        subst ho
        rw [bk_X5_freshFor_36, bk_X4_freshFor_26]
        simp only [cb_eq, cb_ne, cb_lt, cb_ge, cb_gt, cb_le, cb_q, cb_qL, ri_s, rl_s, rr_s, rv_s, Option.bind_some, i10, cond_true, cond_false, show (99 : Int32) < nI 100 from by decide, if_true, r_orNone, show ¬ (0 : Int32) ≤ -1 from by decide, if_false, d_f3]
        exact two_f (by decide)
      | succ d ih =>
        intro o p q ho
        have no : (0 : Int32) ≤ nI o := nI_pos' (by omega)
        have I' : Inv h (upd s 2 (nI o)) := Inv_2 R.1 no
        have f0 : ∀ (p : Nat → Int32), rv_GO rc_X5_freshFor 36 [some (.ref 0), some (.int v), some (.int (nI k)), some (.int (nI o)), some (.int (nI (o + 1)))] [] (mR (upA A 4 p) s r) = some (some (.int (nI o)), mR (upA A 4 p) s r) := by
          intro p
          rw [bk_X5_freshFor_36]
          simp only [cb_eq, cb_ne, cb_lt, cb_ge, cb_gt, cb_le, cb_q, cb_qL, ri_s, rl_s, rr_s, rv_s, Option.bind_some, i10, cond_true, cond_false, r_orNone, no, if_true]
          split <;> rfl
        rw [bk_X5_freshFor_36, bk_X4_freshFor_26]
        simp only [cb_eq, cb_ne, cb_lt, cb_ge, cb_gt, cb_le, cb_q, cb_qL, ri_s, rl_s, rr_s, rv_s, Option.bind_some, i10, cond_true, cond_false, show ¬ (99 : Int32) < nI o from nI_nlt (a := 99) (b := o) (by omega) (by decide), if_false, show ¬ (0 : Int32) ≤ -1 from by decide, lfR, lfR3, r_cp14, upA_upA, w2, t_hours I' (upA A 4 s) r (show k < 2 ^ 31 by omega), r_coldest, bk_X5_freshFor_85, r_cp41, dfD0, dfD2, d_take, dh8, t_passH I' S s F rb (show h + k ≤ 99999 by omega), d_tubsBelow, colS_bel, nI_1, f0]
        by_cases le : colS (hoursS 0 (upd s 2 (nI o)) k) 9 < v
        · simp only [le, if_true, not_true_eq_false, if_false]
          exact ih (o + 1) _ _ (by omega)
        · simp only [le, if_false, not_false_eq_true, if_true]
          exact two_n
    have l0 := L 100 0 (A 4) (S 2) (by omega)
    rw [upA_self, nI_0] at l0
    refine sim_two R ?_
    rw [ev_X5_freshFor _ _ _ _ (obR A s r), ev_X4_freshFor _ _ _ _ (obE S s (S 2) F rb)]
    simp only [cb_eq, cb_ne, cb_lt, cb_ge, cb_gt, cb_le, cb_q, cb_qL, ri_s, rl_s, rr_s, rv_s, Option.bind_some, i10, cond_true, cond_false, m_isIn, r_f0, c_isWithin, d_f0]
    rw [if2y g, if2y g]
    exact l0
  · refine sim_f R (k := 0) (x := -1000001) (by decide) ?_ ?_
    · rw [ev_X5_freshFor _ _ _ _ (obR A s r)]
      simp only [cb_eq, cb_ne, cb_lt, cb_ge, cb_gt, cb_le, cb_q, cb_qL, ri_s, rl_s, rr_s, rv_s, Option.bind_some, i10, cond_true, cond_false, m_isIn, r_f0]
      exact if2n g _ _
    · rw [ev_X4_freshFor _ _ _ _ (obD S 0 s F rb)]
      simp only [cb_eq, cb_ne, cb_lt, cb_ge, cb_gt, cb_le, cb_q, cb_qL, ri_s, rl_s, rr_s, rv_s, Option.bind_some, i10, cond_true, cond_false, c_isWithin, c_f0]
      exact if2n g _ _
