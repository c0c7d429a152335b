/-! THE CALLS: knows, when, cold -/
theorem s_knows {h : Nat} {A : Nat → Nat → Int32} {r : Nat → Int32} {S F : Nat → Nat → Int32} {rb : Nat} {s : Nat → Int32} (R : Rel h A r S F s) (hh : h ≤ 30000) (x z : Int32) : Sim h 148 63 [.int x, .int z] A r S F rb s := by
  by_cases g : (0 ≤ x ∧ x < s 0) ∧ (0 ≤ z ∧ z ≤ 60)
  · obtain ⟨⟨n, hn, hs, ok, sps⟩, ⟨t1, ht1, e1⟩, hw, h9⟩ := R.1
    obtain ⟨b, hb, rfl⟩ := ix_rg (n := n) (by omega) g.1.1 (by rw [← hs]; exact g.1.2)
    obtain ⟨k, hk, rfl⟩ := ix_le (n := 60) (by decide) g.2.1 g.2.2
    have hb8 : b < 8 := by omega
    have hp := d_passHours S s s F rb hn hs ok hw e1 (k := k) (by omega)
    rw [h9] at hp
    have hm := m_hours (upA A 4 s) s r hn hs ok (show k < 2 ^ 31 by omega)
    refine sim_t (x := hoursS 0 s k (54 + 4 * b + 3)) R s (hoursS 0 s k) ?_ ?_
    · rw [ev_X5_knows _ _ _ _ (obR A s r)]
      have hk1 : rv_EV 147 [.ref 0, .int (nI b), .int (nI k)] (mR A s r) = some (some (.int (hoursS 0 s k (54 + 4 * b + 3))), mR (upA A 4 s) s r) := by
        rw [ev_X5_knownIn _ _ _ _ (obR A s r)]
        simp only [cb_eq, cb_ne, cb_lt, cb_ge, cb_gt, cb_le, cb_q, cb_qL, ri_s, rl_s, rr_s, rv_s, Option.bind_some, i10, cond_true, cond_false, lfR, lfR3, r_cp14, hm, r_its3 (upA A 4 s) (hoursS 0 s k) r hb8, r_cp41]
      simp only [cb_eq, cb_ne, cb_lt, cb_ge, cb_gt, cb_le, cb_q, cb_qL, ri_s, rl_s, rr_s, rv_s, Option.bind_some, i10, cond_true, cond_false, r_isBather, m_isIn, r_f0, hk1]
      exact if2y g _ _
    · rw [ev_X4_knows _ _ _ _ (obE S s (S 2) F rb)]
      have hl : rv_ldI (cD S s (hoursS 0 s k) F rb) (sa 2 6) (nI b) = some (hoursS 0 s k (54 + 4 * b + 3)) := cl6 (upA S 0 s) h23 _ F rb hb8
      have hf : rv_ldFR (cD S s (hoursS 0 s k) F rb) (sp 2) 1 5 = some (sa 2 6) := cf6 (upA S 0 s) h23 _ F rb
      simp only [cb_eq, cb_ne, cb_lt, cb_ge, cb_gt, cb_le, cb_q, cb_qL, ri_s, rl_s, rr_s, rv_s, Option.bind_some, i10, cond_true, cond_false, d_hasBather, c_isWithin, dfD0, dfD2, d_take, hp, hl, hf]
      refine Eq.trans ?_ (if2y g (some (some (Value.int (-1000001)), cD S s (S 2) (cfd F 0) rb)) _)
      rw [← cR_D, c_f0, cR_D]
      rfl
  · refine sim_f R (k := 0) (x := -1000001) (by decide) ?_ ?_
    · rw [ev_X5_knows _ _ _ _ (obR A s r)]
      simp only [cb_eq, cb_ne, cb_lt, cb_ge, cb_gt, cb_le, cb_q, cb_qL, ri_s, rl_s, rr_s, rv_s, Option.bind_some, i10, cond_true, cond_false, r_isBather, m_isIn, r_f0]
      exact if2n g _ _
    · rw [ev_X4_knows _ _ _ _ (obD S 0 s F rb)]
      simp only [cb_eq, cb_ne, cb_lt, cb_ge, cb_gt, cb_le, cb_q, cb_qL, ri_s, rl_s, rr_s, rv_s, Option.bind_some, i10, cond_true, cond_false, lfD0, lfD1, lfD2, lfD3, lfD4, lfD5, lfD6, lgD7, lgD8, sgD7, sgD8, k_hasBather S h03, c_isWithin, c_f0]
      exact if2n g _ _
/-- the first of d hours from k on -/
def untS (P : Nat → Bool) : Nat → Nat → Option Nat
  | 0, _ => none
  | d + 1, k => if P k then some k else untS P d (k + 1)
theorem untS_lt {P : Nat → Bool} : ∀ {d k m : Nat}, untS P d k = some m → k ≤ m ∧ m < k + d
  | 0, k, m, h => by cases h
  | d + 1, k, m, h => by
    rw [untS] at h
    split at h
    · cases h; omega
    · have := untS_lt h; omega
def knwP (s : Nat → Int32) (b : Nat) (c : Int32) (k : Nat) : Bool := decide (¬ (hoursS 0 s k (54 + 4 * b + 3) >>> (c &&& 31)) &&& 1 = 0)
theorem gt60 (k d : Nat) (hk : k + d = 61) : ((60 : Int32) < nI k) = (d = 0) := by
  rw [show (60 : Int32) = nI 60 from rfl, nI_ltI (by decide) (by omega)]
  exact propext (by omega)
theorem hours_1 (q : Nat → Int32) : hoursS 0 q 1 = hourS 0 q := rfl
theorem r_hour1 (A : Nat → Nat → Int32) (q r : Nat → Int32) {n : Nat} (hn : n ≤ 8) (hs : q 0 = nI n) (ok : okN q n) : rv_EV 139 [.ref 0, .int 1] (mR A q r) = some (none, mR A (hourS 0 q) r) := m_hours A q r hn hs ok (k := 1) (by decide)
theorem r_soonest (A : Nat → Nat → Int32) (s r : Nat → Int32) {n : Nat} (hn : n ≤ 8) (hs : s 0 = nI n) (ok : okN s n) {b : Nat} (hb : b < 8) (c : Int32) : rv_EV 149 [.ref 0, .int (nI b), .int c] (mR A s r) = some (some (.int (match untS (knwP s b c) 61 0 with | some k => nI k | none => -1)), mR (upA A 4 s) s r) := by
  have st : ∀ d k, k + d = 61 → rv_GO rc_X5_soonest 13 [some (.ref 0), some (.int (nI b)), some (.int c), some (.int (nI k))] [] (mR (upA A 4 s) (hoursS 0 s k) r) = some (some (.int (match untS (knwP s b c) d k with | some k => nI k | none => -1)), mR (upA A 4 s) s r) := by
    intro d
    induction d with
    | zero =>
      intro k hk
      rw [bk_X5_soonest_13]
      simp only [cb_eq, cb_ne, cb_lt, cb_ge, cb_gt, cb_le, cb_q, cb_qL, ri_s, rl_s, rr_s, rv_s, Option.bind_some, i10, cond_true, cond_false, gt60 k 0 hk, if_true, bk_X5_soonest_43, lfR, lfR3, r_cp41]
      rfl
    | succ d ih =>
      intro k hk
      obtain ⟨h1, h2⟩ := hoursS_ok (gone := 0) hn hs ok k
      rw [bk_X5_soonest_13]
      simp only [cb_eq, cb_ne, cb_lt, cb_ge, cb_gt, cb_le, cb_q, cb_qL, ri_s, rl_s, rr_s, rv_s, Option.bind_some, i10, cond_true, cond_false, gt60 k (d + 1) hk, Nat.add_one_ne_zero, if_false, r_its3 (upA A 4 s) (hoursS 0 s k) r hb, bk_X5_soonest_43, lfR, lfR3, r_cp41, r_hour1 (upA A 4 s) (hoursS 0 s k) r hn h2 h1, nI_1]
      by_cases e : (hoursS 0 s k (54 + 4 * b + 3) >>> (c &&& 31)) &&& 1 = 0
      · rw [if_pos e, untS, if_neg (by simp [knwP, e])]
        exact ih (k + 1) (by omega)
      · rw [if_neg e, untS, if_pos (by simp [knwP, e])]
  rw [ev_X5_soonest _ _ _ _ (obR A s r)]
  simp only [cb_eq, cb_ne, cb_lt, cb_ge, cb_gt, cb_le, cb_q, cb_qL, ri_s, rl_s, rr_s, rv_s, Option.bind_some, i10, cond_true, cond_false, lfR, lfR3, r_cp14]
  exact st 61 0 rfl
/-- draft loads -/
theorem dl1 (S : Nat → Nat → Int32) (s q : Nat → Int32) (F : Nat → Nat → Int32) (rb : Nat) {k : Nat} (h : k < 10) : rv_ldI (cD S s q F rb) (sa 2 1) (nI k) = some (q (4 + k)) := cl1 (upA S 0 s) h23 q F rb h
theorem dl6 (S : Nat → Nat → Int32) (s q : Nat → Int32) (F : Nat → Nat → Int32) (rb : Nat) {k : Nat} (h : k < 8) : rv_ldI (cD S s q F rb) (sa 2 6) (nI k) = some (q (54 + 4 * k + 3)) := cl6 (upA S 0 s) h23 q F rb h
theorem df1 (S : Nat → Nat → Int32) (s q : Nat → Int32) (F : Nat → Nat → Int32) (rb : Nat) : rv_ldFR (cD S s q F rb) (sp 2) 1 0 = some (sa 2 1) := cf1 (upA S 0 s) h23 q F rb
theorem df3 (S : Nat → Nat → Int32) (s q : Nat → Int32) (F : Nat → Nat → Int32) (rb : Nat) : rv_ldFR (cD S s q F rb) (sp 2) 1 2 = some (sa 2 3) := cf3 (upA S 0 s) h23 q F rb
theorem df4 (S : Nat → Nat → Int32) (s q : Nat → Int32) (F : Nat → Nat → Int32) (rb : Nat) : rv_ldFR (cD S s q F rb) (sp 2) 1 3 = some (sa 2 4) := cf4 (upA S 0 s) h23 q F rb
theorem df5 (S : Nat → Nat → Int32) (s q : Nat → Int32) (F : Nat → Nat → Int32) (rb : Nat) : rv_ldFR (cD S s q F rb) (sp 2) 1 4 = some (sa 2 5) := cf5 (upA S 0 s) h23 q F rb
theorem df6 (S : Nat → Nat → Int32) (s q : Nat → Int32) (F : Nat → Nat → Int32) (rb : Nat) : rv_ldFR (cD S s q F rb) (sp 2) 1 5 = some (sa 2 6) := cf6 (upA S 0 s) h23 q F rb
theorem gtd {d k : Nat} (hd : d < 2 ^ 20) (hk : k < 2 ^ 20) : (nI d - 1 < nI k) = (d ≤ k) := by
  have e : (nI d - 1).toInt = (d : Int) - 1 := pk_sub_toInt (a := d) (b := 1) (by omega) (by decide)
  rw [Int32.lt_iff_toInt_lt, e, nI_toInt (by omega)]
  exact propext (by omega)
theorem d_until (S : Nat → Nat → Int32) (s q : Nat → Int32) (F : Nat → Nat → Int32) (rb : Nat) {n : Nat} (hn : n ≤ 8) (hs : q 0 = nI n) (ok : okN q n) (hw : wOK q) {t : Nat} (ht : q 1 = nI t) (ht2 : t ≤ 30000) (h9 : q 96 = 0) {b : Nat} (hb : b < 8) (c : Int32) {D : Nat} (hD : D ≤ 61) :
    ∃ q', rv_EV 104 [.ref 0, .int (nI b), .int c, .int (nI D - 1)] (cD S s q F rb) = some (some (.int (match untS (knwP q b c) D 0 with | some k => nI k | none => -1)), cD S s q' F rb) := by
  have st : ∀ d k, k + d = D → ∃ q', rv_GO rc_X4_hoursUntilKnown 3 [some (.ref 0), some (.int (nI b)), some (.int c), some (.int (nI D - 1)), some (.int (nI k))] [] (cD S s (hoursS 0 q k) F rb) = some (some (.int (match untS (knwP q b c) d k with | some k => nI k | none => -1)), cD S s q' F rb) := by
    intro d
    induction d with
    | zero =>
      intro k hk
      refine ⟨hoursS 0 q k, ?_⟩
      rw [bk_X4_hoursUntilKnown_3]
      simp only [cb_eq, cb_ne, cb_lt, cb_ge, cb_gt, cb_le, cb_q, cb_qL, ri_s, rl_s, rr_s, rv_s, Option.bind_some, i10, cond_true, cond_false, gtd (show D < 2 ^ 20 by omega) (show k < 2 ^ 20 by omega), show D ≤ k by omega, if_true]
      rfl
    | succ d ih =>
      intro k hk
      obtain ⟨h1, h2⟩ := hoursS_ok (gone := 0) hn hs ok k
      have hp := d_passHour S s (hoursS 0 q k) F rb hn h2 h1 (hoursS_w hn hs ok hw k) (by rw [hoursS_1 ht k, nI_1]; exact nI_le (a := t + k + 1) (b := 99999) (by omega) (by decide))
      rw [hoursS_96 hn hs ok k, h9] at hp
      by_cases e : (hoursS 0 q k (54 + 4 * b + 3) >>> (c &&& 31)) &&& 1 = 0
      · obtain ⟨q', hq'⟩ := ih (k + 1) (by omega)
        refine ⟨q', ?_⟩
        rw [bk_X4_hoursUntilKnown_3]
        simp only [cb_eq, cb_ne, cb_lt, cb_ge, cb_gt, cb_le, cb_q, cb_qL, ri_s, rl_s, rr_s, rv_s, Option.bind_some, i10, cond_true, cond_false, gtd (show D < 2 ^ 20 by omega) (show k < 2 ^ 20 by omega), show ¬ D ≤ k by omega, if_false, dfD2, df6, dl6 S s (hoursS 0 q k) F rb hb, hp, nI_1, e, if_true]
        rw [untS, if_neg (by simp [knwP, e])]
        exact hq'
      · refine ⟨hoursS 0 q k, ?_⟩
        rw [bk_X4_hoursUntilKnown_3]
        simp only [cb_eq, cb_ne, cb_lt, cb_ge, cb_gt, cb_le, cb_q, cb_qL, ri_s, rl_s, rr_s, rv_s, Option.bind_some, i10, cond_true, cond_false, gtd (show D < 2 ^ 20 by omega) (show k < 2 ^ 20 by omega), show ¬ D ≤ k by omega, if_false, dfD2, df6, dl6 S s (hoursS 0 q k) F rb hb, e]
        rw [untS, if_pos (by simp [knwP, e])]
  obtain ⟨q', hq'⟩ := st D 0 (by omega)
  exact ⟨q', by rw [ev_X4_hoursUntilKnown _ _ _ _ _ (obE S s q F rb)]; exact hq'⟩
/-- a finding behind a trial -/
theorem sim_tf {h : Nat} {km kc : Nat} {as : List Value} {A : Nat → Nat → Int32} {r : Nat → Int32} {S F : Nat → Nat → Int32} {rb : Nat} {s : Nat → Int32} (R : Rel h A r S F s) {x : Int32} {k : Nat} (hk : k < 7) (p q : Nat → Int32) (h1 : rv_EV km (.ref 0 :: as) (mR A s r) = some (some (.int x), mR (fnd (upA A 4 p) k) s r)) (h2 : rv_EV kc (.ref 0 :: as) (cD S s (S 2) F rb) = some (some (.int x), cD S s q (cfd F k) rb)) : Sim h km kc as A r S F rb s :=
  ⟨_, _, _, _, _, _, _, h1, by rw [cR_D, h2, cD_back], rel_fnd (rel_free R p q) hk, ⟨x, rfl⟩⟩
theorem d_f0 (S : Nat → Nat → Int32) (s q : Nat → Int32) (F : Nat → Nat → Int32) (rb : Nat) : rv_EV 95 [.ref 0, .int 0] (cD S s q F rb) = some (some (.int (-1000001)), cD S s q (cfd F 0) rb) := by rw [cD_back, c_f0, cD_back]
theorem d_f3 (S : Nat → Nat → Int32) (s q : Nat → Int32) (F : Nat → Nat → Int32) (rb : Nat) : rv_EV 95 [.ref 0, .int 3] (cD S s q F rb) = some (some (.int (-1000004)), cD S s q (cfd F 3) rb) := by rw [cD_back, c_f3, cD_back]
theorem r_orNone (A : Nat → Nat → Int32) (s r : Nat → Int32) (x : Int32) : rv_EV 115 [.ref 0, .int x] (mR A s r) = if 0 ≤ x then some (some (.int x), mR A s r) else some (some (.int (-1000004)), mR (fnd A 3) s r) := by
  refine (m_orNone (upA A 1 s) r x).trans ?_
  rw [fnd_up]
  rfl
theorem s_when {h : Nat} {A : Nat → Nat → Int32} {r : Nat → Int32} {S F : Nat → Nat → Int32} {rb : Nat} {s : Nat → Int32} (R : Rel h A r S F s) (hh : h ≤ 30000) (x c : Int32) : Sim h 150 64 [.int x, .int c] A r S F rb s := by
  by_cases g : (0 ≤ x ∧ x < s 0) ∧ (0 ≤ c ∧ c < 4)
  · obtain ⟨⟨n, hn, hs, ok, sps⟩, ⟨t1, ht1, e1⟩, hw, h9⟩ := R.1
    obtain ⟨b, hb, rfl⟩ := ix_rg (n := n) (by omega) g.1.1 (by rw [← hs]; exact g.1.2)
    have hb8 : b < 8 := by omega
    obtain ⟨q', hq'⟩ := d_until S s s F rb hn hs ok hw e1 (by omega) h9 hb8 c (D := 61) (by decide)
    rw [show nI 61 - 1 = 60 from rfl] at hq'
    cases hu : untS (knwP s b c) 61 0 with
    | some k =>
      have hk := untS_lt hu
      have hs1 := r_soonest A s r hn hs ok hb8 c
      rw [hu] at hq' hs1
      have nn : (0 : Int32) ≤ nI k := nI_pos' (by omega)
      refine sim_t (x := nI k) R s q' ?_ ?_
      · rw [ev_X5_when _ _ _ _ (obR A s r)]
        simp only [cb_eq, cb_ne, cb_lt, cb_ge, cb_gt, cb_le, cb_q, cb_qL, ri_s, rl_s, rr_s, rv_s, Option.bind_some, i10, cond_true, cond_false, r_isBather, m_isScent, r_f0, hs1, r_orNone, nn, if_true]
        exact if2y g _ _
      · rw [ev_X4_when _ _ _ _ (obE S s (S 2) F rb)]
        simp only [cb_eq, cb_ne, cb_lt, cb_ge, cb_gt, cb_le, cb_q, cb_qL, ri_s, rl_s, rr_s, rv_s, Option.bind_some, i10, cond_true, cond_false, d_hasBather, c_isScent, dfD0, dfD2, d_take, hq', d_f0, nn, if_true]
        exact if2y g _ _
    | none =>
      have hs1 := r_soonest A s r hn hs ok hb8 c
      rw [hu] at hq' hs1
      have nn : ¬ (0 : Int32) ≤ -1 := by decide
      refine sim_tf (x := -1000004) (k := 3) R (by decide) s q' ?_ ?_
      · rw [ev_X5_when _ _ _ _ (obR A s r)]
        simp only [cb_eq, cb_ne, cb_lt, cb_ge, cb_gt, cb_le, cb_q, cb_qL, ri_s, rl_s, rr_s, rv_s, Option.bind_some, i10, cond_true, cond_false, r_isBather, m_isScent, r_f0, hs1, r_orNone, nn, if_false]
        exact if2y g _ _
      · rw [ev_X4_when _ _ _ _ (obE S s (S 2) F rb)]
        simp only [cb_eq, cb_ne, cb_lt, cb_ge, cb_gt, cb_le, cb_q, cb_qL, ri_s, rl_s, rr_s, rv_s, Option.bind_some, i10, cond_true, cond_false, d_hasBather, c_isScent, dfD0, dfD2, d_take, hq', d_f0, d_f3, nn, if_false]
        exact if2y g _ _
  · refine sim_f R (k := 0) (x := -1000001) (by decide) ?_ ?_
    · rw [ev_X5_when _ _ _ _ (obR A s r)]
      simp only [cb_eq, cb_ne, cb_lt, cb_ge, cb_gt, cb_le, cb_q, cb_qL, ri_s, rl_s, rr_s, rv_s, Option.bind_some, i10, cond_true, cond_false, r_isBather, m_isScent, r_f0]
      exact if2n g _ _
    · rw [ev_X4_when _ _ _ _ (obD S 0 s F rb)]
      simp only [cb_eq, cb_ne, cb_lt, cb_ge, cb_gt, cb_le, cb_q, cb_qL, ri_s, rl_s, rr_s, rv_s, Option.bind_some, i10, cond_true, cond_false, lfD0, lfD1, lfD2, lfD3, lfD4, lfD5, lfD6, lgD7, lgD8, sgD7, sgD8, k_hasBather S h03, c_isScent, c_f0]
      exact if2n g _ _
/-! cold -/
def cldP (s : Nat → Int32) (t : Nat) (v : Int32) (k : Nat) : Bool := decide (hoursS 0 s k (4 + t) < v)
theorem s_cold {h : Nat} {A : Nat → Nat → Int32} {r : Nat → Int32} {S F : Nat → Nat → Int32} {rb : Nat} {s : Nat → Int32} (R : Rel h A r S F s) (hh : h ≤ 30000) (x v : Int32) : Sim h 151 65 [.int x, .int v] A r S F rb s := by
  by_cases g : (0 ≤ x ∧ x < 10) ∧ (0 ≤ v ∧ v ≤ 99)
  · obtain ⟨⟨n, hn, hs, ok, sps⟩, ⟨t1, ht1, e1⟩, hw, h9⟩ := R.1
    obtain ⟨t, ht, rfl⟩ := ix_rg (n := 10) (by decide) g.1.1 g.1.2
    have mst : ∀ d k, k + d = 61 → rv_GO rc_X5_cold 39 [some (.ref 0), some (.int (nI t)), some (.int v), some (.int (nI k))] [] (mR (upA A 4 s) (hoursS 0 s k) r) = (match untS (cldP s t v) d k with | some k => some (some (.int (nI k)), mR (upA A 4 s) s r) | none => some (some (.int (-1000004)), mR (fnd (upA A 4 s) 3) s r)) := by
      intro d
      induction d with
      | zero =>
        intro k hk
        rw [bk_X5_cold_39]
        simp only [cb_eq, cb_ne, cb_lt, cb_ge, cb_gt, cb_le, cb_q, cb_qL, ri_s, rl_s, rr_s, rv_s, Option.bind_some, i10, cond_true, cond_false, gt60 k 0 hk, if_true, bk_X5_cold_68, lfR, lfR3, r_cp41, r_f3]
        rfl
      | succ d ih =>
        intro k hk
        obtain ⟨h1, h2⟩ := hoursS_ok (gone := 0) hn hs ok k
        rw [bk_X5_cold_39]
        simp only [cb_eq, cb_ne, cb_lt, cb_ge, cb_gt, cb_le, cb_q, cb_qL, ri_s, rl_s, rr_s, rv_s, Option.bind_some, i10, cond_true, cond_false, gt60 k (d + 1) hk, Nat.add_one_ne_zero, if_false, c4_, ldR (upA A 4 s) (hoursS 0 s k) r (show 4 + t < 96 by omega), bk_X5_cold_68, lfR, lfR3, r_cp41, r_hour1 (upA A 4 s) (hoursS 0 s k) r hn h2 h1, nI_1]
        by_cases e : hoursS 0 s k (4 + t) < v
        · rw [if_pos e, untS, if_pos (by simp [cldP, e])]
        · rw [if_neg e, untS, if_neg (by simp only [cldP, e]; decide)]
          exact ih (k + 1) (by omega)
    have cst : ∀ d k, k + d = 61 → ∃ q', rv_GO rc_X4_cold 35 [some (.ref 0), some (.int (nI t)), some (.int v), some (.int (nI k))] [] (cD S s (hoursS 0 s k) F rb) = (match untS (cldP s t v) d k with | some k => some (some (.int (nI k)), cD S s q' F rb) | none => some (some (.int (-1000004)), cD S s q' (cfd F 3) rb)) := by
      intro d
      induction d with
      | zero =>
        intro k hk
        refine ⟨hoursS 0 s k, ?_⟩
        rw [bk_X4_cold_35]
        simp only [cb_eq, cb_ne, cb_lt, cb_ge, cb_gt, cb_le, cb_q, cb_qL, ri_s, rl_s, rr_s, rv_s, Option.bind_some, i10, cond_true, cond_false, gt60 k 0 hk, if_true, d_f3]
        rfl
      | succ d ih =>
        intro k hk
        obtain ⟨h1, h2⟩ := hoursS_ok (gone := 0) hn hs ok k
        have hp := d_passHour S s (hoursS 0 s k) F rb hn h2 h1 (hoursS_w hn hs ok hw k) (by rw [hoursS_1 e1 k, nI_1]; exact nI_le (a := t1 + k + 1) (b := 99999) (by omega) (by decide))
        rw [hoursS_96 hn hs ok k, h9] at hp
        by_cases e : hoursS 0 s k (4 + t) < v
        · refine ⟨hoursS 0 s k, ?_⟩
          rw [bk_X4_cold_35]
          simp only [cb_eq, cb_ne, cb_lt, cb_ge, cb_gt, cb_le, cb_q, cb_qL, ri_s, rl_s, rr_s, rv_s, Option.bind_some, i10, cond_true, cond_false, gt60 k (d + 1) hk, Nat.add_one_ne_zero, if_false, dfD2, df1, dl1 S s (hoursS 0 s k) F rb ht, show ¬ v ≤ hoursS 0 s k (4 + t) from Int32.not_le.mpr e]
          rw [untS, if_pos (by simp [cldP, e])]
        · obtain ⟨q', hq'⟩ := ih (k + 1) (by omega)
          refine ⟨q', ?_⟩
          rw [bk_X4_cold_35]
          simp only [cb_eq, cb_ne, cb_lt, cb_ge, cb_gt, cb_le, cb_q, cb_qL, ri_s, rl_s, rr_s, rv_s, Option.bind_some, i10, cond_true, cond_false, gt60 k (d + 1) hk, Nat.add_one_ne_zero, if_false, dfD2, df1, dl1 S s (hoursS 0 s k) F rb ht, show v ≤ hoursS 0 s k (4 + t) from Int32.not_lt.mp e, if_true, hp, nI_1]
          rw [untS, if_neg (by simp only [cldP, e]; decide)]
          exact hq'
    have m0 := mst 61 0 rfl
    obtain ⟨q', c0⟩ := cst 61 0 rfl
    rw [show hoursS 0 s 0 = s from rfl, nI_0] at m0 c0
    cases hu : untS (cldP s t v) 61 0 with
    | some k =>
      rw [hu] at m0 c0
      refine sim_t (x := nI k) R s q' ?_ ?_
      · rw [ev_X5_cold _ _ _ _ (obR A s r)]
        simp only [cb_eq, cb_ne, cb_lt, cb_ge, cb_gt, cb_le, cb_q, cb_qL, ri_s, rl_s, rr_s, rv_s, Option.bind_some, i10, cond_true, cond_false, m_isTub, m_isIn, r_f0, lfR, lfR3, r_cp14, m0]
        exact if2y g _ _
      · rw [ev_X4_cold _ _ _ _ (obE S s (S 2) F rb)]
        simp only [cb_eq, cb_ne, cb_lt, cb_ge, cb_gt, cb_le, cb_q, cb_qL, ri_s, rl_s, rr_s, rv_s, Option.bind_some, i10, cond_true, cond_false, c_isTub, c_isWithin, dfD0, dfD2, d_take, c0, d_f0]
        exact if2y g _ _
    | none =>
      rw [hu] at m0 c0
      refine sim_tf (x := -1000004) (k := 3) R (by decide) s q' ?_ ?_
      · rw [ev_X5_cold _ _ _ _ (obR A s r)]
        simp only [cb_eq, cb_ne, cb_lt, cb_ge, cb_gt, cb_le, cb_q, cb_qL, ri_s, rl_s, rr_s, rv_s, Option.bind_some, i10, cond_true, cond_false, m_isTub, m_isIn, r_f0, lfR, lfR3, r_cp14, m0]
        exact if2y g _ _
      · rw [ev_X4_cold _ _ _ _ (obE S s (S 2) F rb)]
        simp only [cb_eq, cb_ne, cb_lt, cb_ge, cb_gt, cb_le, cb_q, cb_qL, ri_s, rl_s, rr_s, rv_s, Option.bind_some, i10, cond_true, cond_false, c_isTub, c_isWithin, dfD0, dfD2, d_take, c0, d_f0]
        exact if2y g _ _
  · refine sim_f R (k := 0) (x := -1000001) (by decide) ?_ ?_
    · rw [ev_X5_cold _ _ _ _ (obR A s r)]
      simp only [cb_eq, cb_ne, cb_lt, cb_ge, cb_gt, cb_le, cb_q, cb_qL, ri_s, rl_s, rr_s, rv_s, Option.bind_some, i10, cond_true, cond_false, m_isTub, m_isIn, r_f0]
      exact if2n g _ _
    · rw [ev_X4_cold _ _ _ _ (obD S 0 s F rb)]
      simp only [cb_eq, cb_ne, cb_lt, cb_ge, cb_gt, cb_le, cb_q, cb_qL, ri_s, rl_s, rr_s, rv_s, Option.bind_some, i10, cond_true, cond_false, lfD0, lfD1, lfD2, lfD3, lfD4, lfD5, lfD6, lgD7, lgD8, sgD7, sgD8, c_isTub, c_isWithin, c_f0]
      exact if2n g _ _
