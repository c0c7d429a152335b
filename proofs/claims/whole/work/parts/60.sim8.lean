/-! THE CALLS: write, load, judge, copy -/
def cutS (b : Nat) (v : Int32) : Int32 := if b = 8 then v.toInt8.toInt32 else if b = 16 then v.toInt16.toInt32 else v
theorem c_put (S : Nat → Nat → Int32) (s : Nat → Int32) (F : Nat → Nat → Int32) (rb : Nat) {t b i : Nat} (ht : t < 4) (hb : b = 8 ∨ b = 16 ∨ b = 32) (e : F (sh t) 1 = nI b) (hi : i < 40) (v : Int32) : rv_EV 8 [.ref (sh t), .int (nI i), .int v] (cR S 0 s F rb) = some (none, cR S 0 s (upB F (sn t) i (cutS b v)) rb) := by
  rw [ev_X1_put _ _ _ _ (obHD S 0 s F rb ht)]
  have hb' : b < 1000 := by omega
  simp only [cb_eq, cb_ne, cb_lt, cb_ge, cb_gt, cb_le, cb_q, cb_qL, ri_s, rl_s, rr_s, rv_s, Option.bind_some, i10, cond_true, cond_false, lgH1D S 0 s F rb ht, e, lfHD S 0 s F rb ht, stHD S 0 s F rb ht hi, sw8 hb', sw16 hb']
  rcases hb with rfl | rfl | rfl <;> rfl
theorem i_m1 {n : Nat} (hn : n ≤ 40) (x : Int32) : (x ≤ nI n - 1) = (x < nI n) := by
  have e : (nI n - 1).toInt = (n : Int) - 1 := pk_sub_toInt (a := n) (b := 1) (by omega) (by decide)
  rw [Int32.le_iff_toInt_le, Int32.lt_iff_toInt_lt, e, nI_toInt (by omega)]
  exact propext (by omega)
theorem s_write {h : Nat} {A : Nat → Nat → Int32} {r : Nat → Int32} {S F : Nat → Nat → Int32} {rb : Nat} {s : Nat → Int32} (R : Rel h A r S F s) (x y z : Int32) : Sim h 199 86 [.int x, .int y, .int z] A r S F rb s := by
  rcases she_3 R.2.2.2.1 x with g | ⟨t, ht, rfl, a, f⟩ | ⟨t, b, n, ht, rfl, hb, hn, a7, f1, a8, f2, a9⟩
  · refine sim_f R (k := 0) (x := -1000001) (by decide) ?_ ?_
    · rw [ev_X5_write _ _ _ _ _ (obR A s r)]
      simp only [cb_eq, cb_ne, cb_lt, cb_ge, cb_gt, cb_le, cb_q, cb_qL, ri_s, rl_s, rr_s, rv_s, Option.bind_some, i10, cond_true, cond_false, m_isSheet, r_f0]
      exact if_pos g
    · rw [ev_X4_write _ _ _ _ _ (obD S 0 s F rb)]
      simp only [cb_eq, cb_ne, cb_lt, cb_ge, cb_gt, cb_le, cb_q, cb_qL, ri_s, rl_s, rr_s, rv_s, Option.bind_some, i10, cond_true, cond_false, c_lack0 S s F rb g, show ¬ (0 : Int32) = -1 from by decide, if_false, c_f0]
  · refine sim_f R (k := 5) (x := -1000006) (by decide) ?_ ?_
    · rw [ev_X5_write _ _ _ _ _ (obR A s r)]
      simp only [cb_eq, cb_ne, cb_lt, cb_ge, cb_gt, cb_le, cb_q, cb_qL, ri_s, rl_s, rr_s, rv_s, Option.bind_some, i10, cond_true, cond_false, lgR4, sgR4, lgR7, sgR7, lgR11, sgR11, lgR12, sgR12, lgR13, sgR13, lgR14, sgR14, lgR15, sgR15, lfR_1, lfR_2, lfR_3, lfR_5, lfR_6, lfR_8, lfR_9, lfR_10, m_isSheet, r_f0, r_f5, ldR7 A s r ht, a, show ¬ (0 : Int32) ≤ -1 from by decide, if_false]
      exact if1y (nn_lt ht (by decide)) _ _
    · rw [ev_X4_write _ _ _ _ _ (obD S 0 s F rb)]
      simp only [cb_eq, cb_ne, cb_lt, cb_ge, cb_gt, cb_le, cb_q, cb_qL, ri_s, rl_s, rr_s, rv_s, Option.bind_some, i10, cond_true, cond_false, c_lack S s F rb ht, f, if_true, show ¬ (5 : Int32) = -1 from by decide, if_false, c_f5]
  · have bz := b_nz hb
    by_cases g : 0 ≤ y ∧ y < nI n
    · obtain ⟨i, hi, rfl⟩ := ix_rg (by omega) g.1 g.2
      have m0 : rv_EV 199 [.ref 0, .int (nI t), .int (nI i), .int z] (mR A s r) = some (some (.int 1), mR (upB A 9 (40 * t + i) (cutS b z)) s r) := by
        rw [ev_X5_write _ _ _ _ _ (obR A s r)]
        simp only [cb_eq, cb_ne, cb_lt, cb_ge, cb_gt, cb_le, cb_q, cb_qL, ri_s, rl_s, rr_s, rv_s, Option.bind_some, i10, cond_true, cond_false, lgR4, sgR4, lgR7, sgR7, lgR11, sgR11, lgR12, sgR12, lgR13, sgR13, lgR14, sgR14, lgR15, sgR15, lfR_1, lfR_2, lfR_3, lfR_5, lfR_6, lfR_8, lfR_9, lfR_10, m_isSheet, r_f0, r_f5, ldR7 A s r ht, ldR8 A s r ht, a7, a8, bz.2, if_true, m_isIn, c40_, stR9 A s r (show 40 * t + i < 160 by omega), i_m1 hn]
        refine (if1y (nn_lt ht (by decide)) _ _).trans ((if1y g _ _).trans ?_)
        rcases hb with rfl | rfl | rfl <;> rfl
      have c0 : rv_EV 86 [.ref 0, .int (nI t), .int (nI i), .int z] (cR S 0 s F rb) = some (some (.int 1), cR S 0 s (upB F (sn t) i (cutS b z)) rb) := by
        rw [ev_X4_write _ _ _ _ _ (obD S 0 s F rb)]
        simp only [cb_eq, cb_ne, cb_lt, cb_ge, cb_gt, cb_le, cb_q, cb_qL, ri_s, rl_s, rr_s, rv_s, Option.bind_some, i10, cond_true, cond_false, lfD0, lfD1, lfD2, lfD3, lfD4, lfD5, lfD6, lgD7, lgD8, sgD7, sgD8, c_lack S s F rb ht, f1, bz.1, if_false, if_true, qD S 0 s F rb ht, lgH2D S 0 s F rb ht, f2, g.2, show ¬ nI i < 0 from Int32.not_lt.mpr g.1, c_put S s F rb ht hb f1 (show i < 40 by omega)]
      refine ⟨_, _, _, _, _, _, _, m0, c0, rel_she R ht (fun p h7 h8 h9 => upA_n A h9 _) (fun j hj => rfl) (fun j hj => rfl) (fun j hj => ?_) (fun p h1 h2 => upA_n F h2 _) (Or.inr ⟨b, n, hb, hn, a7, ?_, a8, ?_, fun k hk => ?_⟩), ⟨_, rfl⟩⟩
      · unfold upB; rw [upA_s, pk_un (by omega)]
      · unfold upB; rw [upA_n _ (by unfold sh sn; omega)]; exact f1
      · unfold upB; rw [upA_n _ (by unfold sh sn; omega)]; exact f2
      · unfold upB
        rw [upA_s, upA_s]
        by_cases e : k = i
        · subst e; rw [pk_us, pk_us]
        · rw [pk_un (by omega), pk_un e]; exact a9 k hk
    · refine sim_f R (k := 0) (x := -1000001) (by decide) ?_ ?_
      · rw [ev_X5_write _ _ _ _ _ (obR A s r)]
        simp only [cb_eq, cb_ne, cb_lt, cb_ge, cb_gt, cb_le, cb_q, cb_qL, ri_s, rl_s, rr_s, rv_s, Option.bind_some, i10, cond_true, cond_false, lgR4, sgR4, lgR7, sgR7, lgR11, sgR11, lgR12, sgR12, lgR13, sgR13, lgR14, sgR14, lgR15, sgR15, lfR_1, lfR_2, lfR_3, lfR_5, lfR_6, lfR_8, lfR_9, lfR_10, m_isSheet, r_f0, r_f5, ldR7 A s r ht, ldR8 A s r ht, a7, a8, bz.2, if_true, m_isIn, i_m1 hn]
        exact (if1y (nn_lt ht (by decide)) _ _).trans (if1n g _ _)
      · rw [ev_X4_write _ _ _ _ _ (obD S 0 s F rb)]
        simp only [cb_eq, cb_ne, cb_lt, cb_ge, cb_gt, cb_le, cb_q, cb_qL, ri_s, rl_s, rr_s, rv_s, Option.bind_some, i10, cond_true, cond_false, lfD0, lfD1, lfD2, lfD3, lfD4, lfD5, lfD6, lgD7, lgD8, sgD7, sgD8, c_lack S s F rb ht, f1, bz.1, if_false, if_true, qD S 0 s F rb ht, lgH2D S 0 s F rb ht, f2, c_f0]
        by_cases g1 : y < 0
        · rw [if_pos g1]
        · rw [if_neg g1, if_neg (fun q => g ⟨Int32.not_lt.mp g1, q⟩)]
/-! load -/
theorem load_L {h : Nat} {A : Nat → Nat → Int32} {r : Nat → Int32} {S F : Nat → Nat → Int32} {rb : Nat} {t n : Nat} (ht : t < 4) (hn : n ≤ 40) (a8 : A 8 t = nI n) (f2 : F (sh t) 2 = nI n) (a9 : ∀ k, k < 40 → A 9 (40 * t + k) = F (sn t) k) : ∀ (d k : Nat) (s : Nat → Int32), k + d = 10 → Inv h s → ∃ v s', rv_GO rc_X5_load 20 [some (.ref 0), some (.int (nI t)), some (.int (nI k))] [] (mR A s r) = some (some (.int v), mR A s' r) ∧ rv_GO rc_X4_load 27 [some (.ref 0), none, none, some (.ref (sh t)), some (.int (nI k))] [] (cR S 0 s F rb) = some (some (.int v), cR S 0 s' F rb) ∧ Inv h s' := by
  intro d
  induction d with
  | zero =>
    intro k s hk I
    have hk : k = 10 := by omega
    subst hk
    refine ⟨nI 10, s, ?_, ?_, I⟩
    · rw [bk_X5_load_20]
      simp only [cb_eq, cb_ne, cb_lt, cb_ge, cb_gt, cb_le, cb_q, cb_qL, ri_s, rl_s, rr_s, rv_s, Option.bind_some, i10, cond_true, cond_false, lgR4, sgR4, lgR7, sgR7, lgR11, sgR11, lgR12, sgR12, lgR13, sgR13, lgR14, sgR14, lgR15, sgR15, lfR_1, lfR_2, lfR_3, lfR_5, lfR_6, lfR_8, lfR_9, lfR_10, ldR8 A s r ht, a8, show (10 : Int32) ≤ nI 10 from by decide, if_true]
      split <;> rfl
    · rw [bk_X4_load_27]
      simp only [cb_eq, cb_ne, cb_lt, cb_ge, cb_gt, cb_le, cb_q, cb_qL, ri_s, rl_s, rr_s, rv_s, Option.bind_some, i10, cond_true, cond_false, lgH2D S 0 s F rb ht, f2, show (10 : Int32) ≤ nI 10 from by decide, if_true]
      split <;> rfl
  | succ d ih =>
    intro k s hk I
    have n10 : ¬ (10 : Int32) ≤ nI k := nI_ge (a := k) (b := 10) (by omega) (by decide)
    by_cases g1 : nI n ≤ nI k
    · refine ⟨nI k, s, ?_, ?_, I⟩
      · rw [bk_X5_load_20]
        simp only [cb_eq, cb_ne, cb_lt, cb_ge, cb_gt, cb_le, cb_q, cb_qL, ri_s, rl_s, rr_s, rv_s, Option.bind_some, i10, cond_true, cond_false, lgR4, sgR4, lgR7, sgR7, lgR11, sgR11, lgR12, sgR12, lgR13, sgR13, lgR14, sgR14, lgR15, sgR15, lfR_1, lfR_2, lfR_3, lfR_5, lfR_6, lfR_8, lfR_9, lfR_10, ldR8 A s r ht, a8, g1, if_true]
      · rw [bk_X4_load_27]
        simp only [cb_eq, cb_ne, cb_lt, cb_ge, cb_gt, cb_le, cb_q, cb_qL, ri_s, rl_s, rr_s, rv_s, Option.bind_some, i10, cond_true, cond_false, lgH2D S 0 s F rb ht, f2, g1, if_true]
    · have hkn : k < n := by
        refine Classical.byContradiction fun q => g1 (nI_le (by omega) (by omega))
      have hk40 : k < 40 := by omega
      by_cases g2 : 0 ≤ F (sn t) k ∧ F (sn t) k ≤ 99
      · obtain ⟨v, s', h1, h2, h3⟩ := ih (k + 1) (upd s (4 + k) (F (sn t) k)) (by omega) (Inv_w I (by omega) g2.1)
        refine ⟨v, s', ?_, ?_, h3⟩
        · rw [bk_X5_load_20]
          simp only [cb_eq, cb_ne, cb_lt, cb_ge, cb_gt, cb_le, cb_q, cb_qL, ri_s, rl_s, rr_s, rv_s, Option.bind_some, i10, cond_true, cond_false, lfR, lgR4, sgR4, lgR7, sgR7, lgR11, sgR11, lgR12, sgR12, lgR13, sgR13, lgR14, sgR14, lgR15, sgR15, lfR_1, lfR_2, lfR_3, lfR_5, lfR_6, lfR_8, lfR_9, lfR_10, ldR8 A s r ht, a8, g1, n10, if_false, c40_, ldR9 A s r (show 40 * t + k < 160 by omega), a9 k hk40, m_isIn, c4_, stR A s r (show 4 + k < 96 by omega), nI_1]
          exact (if1y g2 _ _).trans h1
        · rw [bk_X4_load_27]
          simp only [cb_eq, cb_ne, cb_lt, cb_ge, cb_gt, cb_le, cb_q, cb_qL, ri_s, rl_s, rr_s, rv_s, Option.bind_some, i10, cond_true, cond_false, lfD0, lfD1, lfD2, lfD3, lfD4, lfD5, lfD6, lgD7, lgD8, sgD7, sgD8, lgH2D S 0 s F rb ht, f2, g1, n10, if_false, lfHD S 0 s F rb ht, ldHD S 0 s F rb ht hk40, c_isWithin, cf1 S h03, ct1 S h03 s F rb (show k < 10 by omega), nI_1]
          exact (if1y g2 _ _).trans h2
      · refine ⟨nI k, s, ?_, ?_, I⟩
        · rw [bk_X5_load_20]
          simp only [cb_eq, cb_ne, cb_lt, cb_ge, cb_gt, cb_le, cb_q, cb_qL, ri_s, rl_s, rr_s, rv_s, Option.bind_some, i10, cond_true, cond_false, lfR, lgR4, sgR4, lgR7, sgR7, lgR11, sgR11, lgR12, sgR12, lgR13, sgR13, lgR14, sgR14, lgR15, sgR15, lfR_1, lfR_2, lfR_3, lfR_5, lfR_6, lfR_8, lfR_9, lfR_10, ldR8 A s r ht, a8, g1, n10, if_false, c40_, ldR9 A s r (show 40 * t + k < 160 by omega), a9 k hk40, m_isIn]
          exact if_pos g2
        · rw [bk_X4_load_27]
          simp only [cb_eq, cb_ne, cb_lt, cb_ge, cb_gt, cb_le, cb_q, cb_qL, ri_s, rl_s, rr_s, rv_s, Option.bind_some, i10, cond_true, cond_false, lfD0, lfD1, lfD2, lfD3, lfD4, lfD5, lfD6, lgD7, lgD8, sgD7, sgD8, lgH2D S 0 s F rb ht, f2, g1, n10, if_false, lfHD S 0 s F rb ht, ldHD S 0 s F rb ht hk40, c_isWithin]
          exact if_pos g2
theorem s_load {h : Nat} {A : Nat → Nat → Int32} {r : Nat → Int32} {S F : Nat → Nat → Int32} {rb : Nat} {s : Nat → Int32} (R : Rel h A r S F s) (x : Int32) : Sim h 202 88 [.int x] A r S F rb s := by
  rcases she_3 R.2.2.2.1 x with g | ⟨t, ht, rfl, a, f⟩ | ⟨t, b, n, ht, rfl, hb, hn, a7, f1, a8, f2, a9⟩
  · refine sim_f R (k := 0) (x := -1000001) (by decide) ?_ ?_
    · rw [ev_X5_load _ _ _ (obR A s r)]
      simp only [cb_eq, cb_ne, cb_lt, cb_ge, cb_gt, cb_le, cb_q, cb_qL, ri_s, rl_s, rr_s, rv_s, Option.bind_some, i10, cond_true, cond_false, r_wants0 A s r g, r_f0, show ¬ (-1000001 : Int32) = 0 from by decide, if_false]
    · rw [ev_X4_load _ _ _ (obD S 0 s F rb)]
      simp only [cb_eq, cb_ne, cb_lt, cb_ge, cb_gt, cb_le, cb_q, cb_qL, ri_s, rl_s, rr_s, rv_s, Option.bind_some, i10, cond_true, cond_false, c_lack0 S s F rb g, show ¬ (0 : Int32) = -1 from by decide, if_false, c_f0]
  · refine sim_f R (k := 5) (x := -1000006) (by decide) ?_ ?_
    · rw [ev_X5_load _ _ _ (obR A s r)]
      simp only [cb_eq, cb_ne, cb_lt, cb_ge, cb_gt, cb_le, cb_q, cb_qL, ri_s, rl_s, rr_s, rv_s, Option.bind_some, i10, cond_true, cond_false, r_wants A s r ht, a, show ¬ (0 : Int32) ≤ -1 from by decide, r_f5, show ¬ (-1000006 : Int32) = 0 from by decide, if_false]
    · rw [ev_X4_load _ _ _ (obD S 0 s F rb)]
      simp only [cb_eq, cb_ne, cb_lt, cb_ge, cb_gt, cb_le, cb_q, cb_qL, ri_s, rl_s, rr_s, rv_s, Option.bind_some, i10, cond_true, cond_false, c_lack S s F rb ht, f, if_true, show ¬ (5 : Int32) = -1 from by decide, if_false, c_f5]
  · have bz := b_nz hb
    obtain ⟨v, s', h1, h2, h3⟩ := load_L (h := h) (r := r) (S := S) (rb := rb) ht hn a8 f2 a9 10 0 s rfl R.1
    rw [nI_0] at h1 h2
    refine sim_r (s' := s') (x := v) R (Nat.le_refl _) ?_ ?_ h3
    · rw [ev_X5_load _ _ _ (obR A s r)]
      simp only [cb_eq, cb_ne, cb_lt, cb_ge, cb_gt, cb_le, cb_q, cb_qL, ri_s, rl_s, rr_s, rv_s, Option.bind_some, i10, cond_true, cond_false, r_wants A s r ht, a7, bz.2, if_true]
      exact h1
    · rw [ev_X4_load _ _ _ (obD S 0 s F rb)]
      simp only [cb_eq, cb_ne, cb_lt, cb_ge, cb_gt, cb_le, cb_q, cb_qL, ri_s, rl_s, rr_s, rv_s, Option.bind_some, i10, cond_true, cond_false, lfD0, lfD1, lfD2, lfD3, lfD4, lfD5, lfD6, lgD7, lgD8, sgD7, sgD8, c_lack S s F rb ht, f1, bz.1, if_false, if_true, qD S 0 s F rb ht]
      exact h2
/-! judge -/
theorem judge_L {A : Nat → Nat → Int32} {r : Nat → Int32} {S F : Nat → Nat → Int32} {rb : Nat} {s : Nat → Int32} {N : Nat} (hN : N ≤ 8) (hs : s 0 = nI N) {t n : Nat} (ht : t < 4) (hn : n ≤ 40) (a8 : A 8 t = nI n) (f2 : F (sh t) 2 = nI n) (a9 : ∀ k, k < 40 → A 9 (40 * t + k) = F (sn t) k) : ∀ (d k : Nat), k + d = n → ∃ v, rv_GO rc_X5_judge 20 [some (.ref 0), some (.int (nI t)), some (.int (nI k))] [] (mR A s r) = some (some (.int v), mR A s r) ∧ rv_GO rc_X4_judge 27 [some (.ref 0), none, none, some (.ref (sh t)), some (.int (nI k))] [] (cR S 0 s F rb) = some (some (.int v), cR S 0 s F rb) := by
  intro d
  induction d with
  | zero =>
    intro k hk
    have hk : k = n := by omega
    subst hk
    refine ⟨0, ?_, ?_⟩
    · rw [bk_X5_judge_20]
      simp only [cb_eq, cb_ne, cb_lt, cb_ge, cb_gt, cb_le, cb_q, cb_qL, ri_s, rl_s, rr_s, rv_s, Option.bind_some, i10, cond_true, cond_false, lgR4, sgR4, lgR7, sgR7, lgR11, sgR11, lgR12, sgR12, lgR13, sgR13, lgR14, sgR14, lgR15, sgR15, lfR_1, lfR_2, lfR_3, lfR_5, lfR_6, lfR_8, lfR_9, lfR_10, ldR8 A s r ht, a8, Int32.le_refl, if_true, bk_X5_judge_64]
    · rw [bk_X4_judge_27]
      simp only [cb_eq, cb_ne, cb_lt, cb_ge, cb_gt, cb_le, cb_q, cb_qL, ri_s, rl_s, rr_s, rv_s, Option.bind_some, i10, cond_true, cond_false, lgH2D S 0 s F rb ht, f2, Int32.le_refl, if_true]
  | succ d ih =>
    intro k hk
    have hk40 : k < 40 := by omega
    have g1 : ¬ nI n ≤ nI k := nI_ge (by omega) (by omega)
    by_cases g2 : 0 ≤ nI k ∧ nI k < s 0
    · have hk8 : k < 8 := by
        have := g2.2
        rw [hs, nI_ltI (by omega) (by omega)] at this
        omega
      by_cases g3 : s (54 + 4 * k + 3) = F (sn t) k
      · obtain ⟨v, h1, h2⟩ := ih (k + 1) (by omega)
        refine ⟨v, ?_, ?_⟩
        · rw [bk_X5_judge_20]
          simp only [cb_eq, cb_ne, cb_lt, cb_ge, cb_gt, cb_le, cb_q, cb_qL, ri_s, rl_s, rr_s, rv_s, Option.bind_some, i10, cond_true, cond_false, lgR4, sgR4, lgR7, sgR7, lgR11, sgR11, lgR12, sgR12, lgR13, sgR13, lgR14, sgR14, lgR15, sgR15, lfR_1, lfR_2, lfR_3, lfR_5, lfR_6, lfR_8, lfR_9, lfR_10, ldR8 A s r ht, a8, g1, if_false, r_isBather, c40_, ldR9 A s r (show 40 * t + k < 160 by omega), a9 k hk40, r_its3 A s r hk8, g3, if_true, nI_1]
          exact (if1y g2 _ _).trans h1
        · rw [bk_X4_judge_27]
          simp only [cb_eq, cb_ne, cb_lt, cb_ge, cb_gt, cb_le, cb_q, cb_qL, ri_s, rl_s, rr_s, rv_s, Option.bind_some, i10, cond_true, cond_false, lfD0, lfD1, lfD2, lfD3, lfD4, lfD5, lfD6, lgD7, lgD8, sgD7, sgD8, lgH2D S 0 s F rb ht, f2, g1, if_false, k_hasBather S h03, cf6 S h03, cl6 S h03 s F rb hk8, lfHD S 0 s F rb ht, ldHD S 0 s F rb ht hk40, g3, if_true, nI_1]
          exact (if1y g2 _ _).trans h2
      · refine ⟨1 + nI k, ?_, ?_⟩
        · rw [bk_X5_judge_20]
          simp only [cb_eq, cb_ne, cb_lt, cb_ge, cb_gt, cb_le, cb_q, cb_qL, ri_s, rl_s, rr_s, rv_s, Option.bind_some, i10, cond_true, cond_false, lgR4, sgR4, lgR7, sgR7, lgR11, sgR11, lgR12, sgR12, lgR13, sgR13, lgR14, sgR14, lgR15, sgR15, lfR_1, lfR_2, lfR_3, lfR_5, lfR_6, lfR_8, lfR_9, lfR_10, ldR8 A s r ht, a8, g1, if_false, r_isBather, c40_, ldR9 A s r (show 40 * t + k < 160 by omega), a9 k hk40, r_its3 A s r hk8, show ¬ F (sn t) k = s (54 + 4 * k + 3) from fun q => g3 q.symm, bk_X5_judge_64]
          exact if1y g2 _ _
        · rw [bk_X4_judge_27]
          simp only [cb_eq, cb_ne, cb_lt, cb_ge, cb_gt, cb_le, cb_q, cb_qL, ri_s, rl_s, rr_s, rv_s, Option.bind_some, i10, cond_true, cond_false, lfD0, lfD1, lfD2, lfD3, lfD4, lfD5, lfD6, lgD7, lgD8, sgD7, sgD8, lgH2D S 0 s F rb ht, f2, g1, if_false, k_hasBather S h03, cf6 S h03, cl6 S h03 s F rb hk8, lfHD S 0 s F rb ht, ldHD S 0 s F rb ht hk40, g3]
          exact if1y g2 _ _
    · refine ⟨1 + nI k, ?_, ?_⟩
      · rw [bk_X5_judge_20]
        simp only [cb_eq, cb_ne, cb_lt, cb_ge, cb_gt, cb_le, cb_q, cb_qL, ri_s, rl_s, rr_s, rv_s, Option.bind_some, i10, cond_true, cond_false, lgR4, sgR4, lgR7, sgR7, lgR11, sgR11, lgR12, sgR12, lgR13, sgR13, lgR14, sgR14, lgR15, sgR15, lfR_1, lfR_2, lfR_3, lfR_5, lfR_6, lfR_8, lfR_9, lfR_10, ldR8 A s r ht, a8, g1, if_false, r_isBather, bk_X5_judge_64]
        exact if_pos g2
      · rw [bk_X4_judge_27]
        simp only [cb_eq, cb_ne, cb_lt, cb_ge, cb_gt, cb_le, cb_q, cb_qL, ri_s, rl_s, rr_s, rv_s, Option.bind_some, i10, cond_true, cond_false, lfD0, lfD1, lfD2, lfD3, lfD4, lfD5, lfD6, lgD7, lgD8, sgD7, sgD8, lgH2D S 0 s F rb ht, f2, g1, if_false, k_hasBather S h03]
        exact if_pos g2
theorem s_judge {h : Nat} {A : Nat → Nat → Int32} {r : Nat → Int32} {S F : Nat → Nat → Int32} {rb : Nat} {s : Nat → Int32} (R : Rel h A r S F s) (x : Int32) : Sim h 203 89 [.int x] A r S F rb s := by
  rcases she_3 R.2.2.2.1 x with g | ⟨t, ht, rfl, a, f⟩ | ⟨t, b, n, ht, rfl, hb, hn, a7, f1, a8, f2, a9⟩
  · refine sim_f R (k := 0) (x := -1000001) (by decide) ?_ ?_
    · rw [ev_X5_judge _ _ _ (obR A s r)]
      simp only [cb_eq, cb_ne, cb_lt, cb_ge, cb_gt, cb_le, cb_q, cb_qL, ri_s, rl_s, rr_s, rv_s, Option.bind_some, i10, cond_true, cond_false, r_wants0 A s r g, r_f0, show ¬ (-1000001 : Int32) = 0 from by decide, if_false]
    · rw [ev_X4_judge _ _ _ (obD S 0 s F rb)]
      simp only [cb_eq, cb_ne, cb_lt, cb_ge, cb_gt, cb_le, cb_q, cb_qL, ri_s, rl_s, rr_s, rv_s, Option.bind_some, i10, cond_true, cond_false, c_lack0 S s F rb g, show ¬ (0 : Int32) = -1 from by decide, if_false, c_f0]
  · refine sim_f R (k := 5) (x := -1000006) (by decide) ?_ ?_
    · rw [ev_X5_judge _ _ _ (obR A s r)]
      simp only [cb_eq, cb_ne, cb_lt, cb_ge, cb_gt, cb_le, cb_q, cb_qL, ri_s, rl_s, rr_s, rv_s, Option.bind_some, i10, cond_true, cond_false, r_wants A s r ht, a, show ¬ (0 : Int32) ≤ -1 from by decide, r_f5, show ¬ (-1000006 : Int32) = 0 from by decide, if_false]
    · rw [ev_X4_judge _ _ _ (obD S 0 s F rb)]
      simp only [cb_eq, cb_ne, cb_lt, cb_ge, cb_gt, cb_le, cb_q, cb_qL, ri_s, rl_s, rr_s, rv_s, Option.bind_some, i10, cond_true, cond_false, c_lack S s F rb ht, f, if_true, show ¬ (5 : Int32) = -1 from by decide, if_false, c_f5]
  · have bz := b_nz hb
    obtain ⟨N, hN, hs, -⟩ := R.1.1
    obtain ⟨v, h1, h2⟩ := judge_L (r := r) (S := S) (rb := rb) hN hs ht hn a8 f2 a9 n 0 (by omega)
    rw [nI_0] at h1 h2
    refine sim_r (s' := s) (x := v) R (Nat.le_refl _) ?_ ?_ R.1
    · rw [ev_X5_judge _ _ _ (obR A s r)]
      simp only [cb_eq, cb_ne, cb_lt, cb_ge, cb_gt, cb_le, cb_q, cb_qL, ri_s, rl_s, rr_s, rv_s, Option.bind_some, i10, cond_true, cond_false, r_wants A s r ht, a7, bz.2, if_true]
      exact h1
    · rw [ev_X4_judge _ _ _ (obD S 0 s F rb)]
      simp only [cb_eq, cb_ne, cb_lt, cb_ge, cb_gt, cb_le, cb_q, cb_qL, ri_s, rl_s, rr_s, rv_s, Option.bind_some, i10, cond_true, cond_false, lfD0, lfD1, lfD2, lfD3, lfD4, lfD5, lfD6, lgD7, lgD8, sgD7, sgD8, c_lack S s F rb ht, f1, bz.1, if_false, if_true, qD S 0 s F rb ht]
      exact h2
/-! copy -/
def cpS (f g : Nat → Int32) (a b n : Nat) : Nat → Int32 := fun i => if b ≤ i ∧ i < b + n then f (a + (i - b)) else g i
theorem r_copy (A : Nat → Nat → Int32) (s r : Nat → Int32) {a b n : Nat} (ha : a + n ≤ 160) (hb : b + n ≤ 160) : rv_GO rc_X5_copy 138 [some (.ref 0), none, none, none, none, some (.int (nI n)), some (.int (nI a)), some (.int (nI b)), some (.int 0), none] [] (mR A s r) = some (some (.int (nI n)), mR (upA A 9 (cpS (A 9) (A 9) a b n)) s r) := by
  have fin : ∀ A', rv_GO rc_X5_copy 138 [some (.ref 0), none, none, none, none, some (.int (nI n)), some (.int (nI a)), some (.int (nI b)), some (.int (nI n)), none] [] (mR A' s r) = some (some (.int (nI n)), mR A' s r) := by
    intro A'
    rw [bk_X5_copy_138]
    simp only [cb_eq, cb_ne, cb_lt, cb_ge, cb_gt, cb_le, cb_q, cb_qL, ri_s, rl_s, rr_s, rv_s, Option.bind_some, i10, cond_true, cond_false, Int32.le_refl, if_true]
  by_cases hab : b ≤ a
  · have st : ∀ k, k ≤ n → rv_GO rc_X5_copy 138 [some (.ref 0), none, none, none, none, some (.int (nI n)), some (.int (nI a)), some (.int (nI b)), some (.int 0), none] [] (mR A s r) = rv_GO rc_X5_copy 138 [some (.ref 0), none, none, none, none, some (.int (nI n)), some (.int (nI a)), some (.int (nI b)), some (.int (nI k)), none] [] (mR (upA A 9 (cpS (A 9) (A 9) a b k)) s r) := by
      intro k
      induction k with
      | zero =>
        intro _
        rw [show cpS (A 9) (A 9) a b 0 = A 9 by funext i; unfold cpS; rw [if_neg (by omega)], upA_self]
        rfl
      | succ k ih =>
        intro hk
        rw [ih (by omega), bk_X5_copy_138]
        simp only [cb_eq, cb_ne, cb_lt, cb_ge, cb_gt, cb_le, cb_q, cb_qL, ri_s, rl_s, rr_s, rv_s, Option.bind_some, i10, cond_true, cond_false, lgR4, sgR4, lgR7, sgR7, lgR11, sgR11, lgR12, sgR12, lgR13, sgR13, lgR14, sgR14, lgR15, sgR15, lfR_1, lfR_2, lfR_3, lfR_5, lfR_6, lfR_8, lfR_9, lfR_10, nI_ge (show k < n by omega) (show n < 2 ^ 31 by omega), show nI b ≤ nI a from nI_le hab (by omega), if_true, if_false, bk_X5_copy_164, nI_add, ldR9 _ s r (show a + k < 160 by omega), stR9 _ s r (show b + k < 160 by omega), nI_1]
        rw [upB_up, upA_s]
        have e : upd (cpS (A 9) (A 9) a b k) (b + k) (cpS (A 9) (A 9) a b k (a + k)) = cpS (A 9) (A 9) a b (k + 1) := by
          funext i
          simp only [upd, cpS]
          rw [if_neg (show ¬ (b ≤ a + k ∧ a + k < b + k) by omega)]
          by_cases e : i = b + k
          · subst e
            rw [if_pos rfl, if_pos (by omega), show b + k - b = k by omega]
          · rw [if_neg e]
            by_cases e2 : b ≤ i ∧ i < b + k
            · rw [if_pos e2, if_pos (by omega)]
            · rw [if_neg e2, if_neg (by omega)]
        rw [e]
    rw [st n (Nat.le_refl _), fin]
  · have st : ∀ k, k ≤ n → rv_GO rc_X5_copy 138 [some (.ref 0), none, none, none, none, some (.int (nI n)), some (.int (nI a)), some (.int (nI b)), some (.int 0), none] [] (mR A s r) = rv_GO rc_X5_copy 138 [some (.ref 0), none, none, none, none, some (.int (nI n)), some (.int (nI a)), some (.int (nI b)), some (.int (nI k)), none] [] (mR (upA A 9 (fun i => if b + n ≤ i + k ∧ i < b + n then A 9 (a + (i - b)) else A 9 i)) s r) := by
      intro k
      induction k with
      | zero =>
        intro _
        rw [show (fun i => if b + n ≤ i + 0 ∧ i < b + n then A 9 (a + (i - b)) else A 9 i) = A 9 by funext i; rw [if_neg (by omega)], upA_self]
        rfl
      | succ k ih =>
        intro hk
        have e1 : (nI n - 1) - nI k = nI (n - 1 - k) := by
          rw [show (1 : Int32) = nI 1 from rfl, pk_sub (by omega), pk_sub (by omega)]
        rw [ih (by omega), bk_X5_copy_138]
        simp only [cb_eq, cb_ne, cb_lt, cb_ge, cb_gt, cb_le, cb_q, cb_qL, ri_s, rl_s, rr_s, rv_s, Option.bind_some, i10, cond_true, cond_false, lgR4, sgR4, lgR7, sgR7, lgR11, sgR11, lgR12, sgR12, lgR13, sgR13, lgR14, sgR14, lgR15, sgR15, lfR_1, lfR_2, lfR_3, lfR_5, lfR_6, lfR_8, lfR_9, lfR_10, nI_ge (show k < n by omega) (show n < 2 ^ 31 by omega), show ¬ nI b ≤ nI a from nI_ge (by omega) (by omega), if_true, if_false, bk_X5_copy_164, e1, nI_add, ldR9 _ s r (show a + (n - 1 - k) < 160 by omega), stR9 _ s r (show b + (n - 1 - k) < 160 by omega), nI_1]
        rw [upB_up, upA_s]
        have e : upd (fun i => if b + n ≤ i + k ∧ i < b + n then A 9 (a + (i - b)) else A 9 i) (b + (n - 1 - k)) ((fun i => if b + n ≤ i + k ∧ i < b + n then A 9 (a + (i - b)) else A 9 i) (a + (n - 1 - k))) = fun i => if b + n ≤ i + (k + 1) ∧ i < b + n then A 9 (a + (i - b)) else A 9 i := by
          funext i
          simp only [upd]
          rw [if_neg (show ¬ (b + n ≤ a + (n - 1 - k) + k ∧ a + (n - 1 - k) < b + n) by omega)]
          by_cases e : i = b + (n - 1 - k)
          · subst e
            rw [if_pos rfl, if_pos (by omega), show b + (n - 1 - k) - b = n - 1 - k by omega]
          · rw [if_neg e]
            by_cases e2 : b + n ≤ i + k ∧ i < b + n
            · rw [if_pos e2, if_pos (by omega)]
            · rw [if_neg e2, if_neg (by omega)]
        rw [e]
    rw [st n (Nat.le_refl _), fin]
    have e : (fun i => if b + n ≤ i + n ∧ i < b + n then A 9 (a + (i - b)) else A 9 i) = cpS (A 9) (A 9) a b n := by
      funext i
      unfold cpS
      by_cases e2 : b ≤ i ∧ i < b + n
      · rw [if_pos e2, if_pos (by omega)]
      · rw [if_neg e2, if_neg (by omega)]
    rw [e]
theorem getH (S : Nat → Nat → Int32) (s : Nat → Int32) (F : Nat → Nat → Int32) (rb : Nat) {i : Nat} (hi : i < 4) : (cR S 0 s F rb)[sn i]? = some (.inl (0, .inl (rv_tab 40 (F (sn i))))) := lt4 (P := fun i => (cR S 0 s F rb)[sn i]? = some (.inl (0, .inl (rv_tab 40 (F (sn i)))))) rfl rfl rfl rfl hi
theorem setH (S : Nat → Nat → Int32) (s : Nat → Int32) (F : Nat → Nat → Int32) (rb : Nat) (g : Nat → Int32) {i : Nat} (hi : i < 4) : (cR S 0 s F rb).set (sn i) (.inl (0, .inl (rv_tab 40 g))) = cR S 0 s (upA F (sn i) g) rb := lt4 (P := fun i => (cR S 0 s F rb).set (sn i) (.inl (0, .inl (rv_tab 40 g))) = cR S 0 s (upA F (sn i) g) rb) rfl rfl rfl rfl hi
theorem c_cpy (S : Nat → Nat → Int32) (s : Nat → Int32) (F : Nat → Nat → Int32) (rb : Nat) {t u a b n : Nat} (ht : t < 4) (hu : u < 4) (ha : a + n ≤ 40) (hb : b + n ≤ 40) : rv_cpy (cR S 0 s F rb) (sn t) (nI a) (sn u) (nI b) (nI n) = some (cR S 0 s (upA F (sn u) (cpS (F (sn t)) (F (sn u)) a b n)) rb) := by
  unfold rv_cpy rv_ints
  rw [getH S s F rb ht, getH S s F rb hu]
  simp only [Option.bind_some, rv_tab_len, nI_clamp (show n < 2 ^ 31 by omega), nI_clamp (show a < 2 ^ 31 by omega), nI_clamp (show b < 2 ^ 31 by omega), nI_pos' (show n < 2 ^ 31 by omega), nI_pos' (show a < 2 ^ 31 by omega), nI_pos' (show b < 2 ^ 31 by omega), true_and, ha, hb, and_self, if_true]
  rw [← setH S s F rb _ hu]
  congr 5
  apply rv_tab_congr
  intro i hi
  unfold cpS
  by_cases e : b ≤ i ∧ i < b + n
  · rw [pk_cpy_in e.1 e.2, if_pos e, rv_getD_tab 40 _ (by omega)]
  · rw [pk_cpy_out (by omega), if_neg e, rv_getD_tab 40 _ hi]
theorem c_span (S : Nat → Nat → Int32) (s : Nat → Int32) (F : Nat → Nat → Int32) (rb : Nat) {t n : Nat} (ht : t < 4) (hn : n ≤ 40) (e : F (sh t) 2 = nI n) (x y : Int32) : rv_EV 7 [.ref (sh t), .int x, .int y] (cR S 0 s F rb) = some (some (.int (if 0 ≤ x ∧ 0 ≤ y ∧ y ≤ nI n - x then 1 else 0)), cR S 0 s F rb) := by
  rw [ev_X1_hasSpan _ _ _ _ (obHD S 0 s F rb ht)]
  simp only [cb_eq, cb_ne, cb_lt, cb_ge, cb_gt, cb_le, cb_q, cb_qL, ri_s, rl_s, rr_s, rv_s, Option.bind_some, i10, cond_true, cond_false, lgH2D S 0 s F rb ht, e]
  by_cases h1 : x < 0
  · rw [if_pos h1, if_neg (fun q => absurd h1 (Int32.not_lt.mpr q.1))]
  · rw [if_neg h1]
    by_cases h2 : y < 0
    · rw [if_pos h2, if_neg (fun q => absurd h2 (Int32.not_lt.mpr q.2.1))]
    · rw [if_neg h2]
      have x0 := Int32.le_iff_toInt_le.mp (Int32.not_lt.mp h1)
      have y0 := Int32.le_iff_toInt_le.mp (Int32.not_lt.mp h2)
      rw [show (0 : Int32).toInt = 0 from rfl] at x0 y0
      have x1 := Int32.toInt_lt x
      have y1 := Int32.toInt_lt y
      have ex : (nI n - x).toInt = (n : Int) - x.toInt := by
        rw [Int32.toInt_sub, nI_toInt (by omega)]
        apply Int.bmod_eq_of_le <;> omega
      have ey : (nI n - y).toInt = (n : Int) - y.toInt := by
        rw [Int32.toInt_sub, nI_toInt (by omega)]
        apply Int.bmod_eq_of_le <;> omega
      by_cases h3 : nI n < y
      · rw [if_pos h3, if_neg]
        intro q
        have q1 := Int32.le_iff_toInt_le.mp q.2.2
        have q2 := Int32.lt_iff_toInt_lt.mp h3
        rw [ex] at q1
        rw [nI_toInt (by omega)] at q2
        omega
      · rw [if_neg h3]
        by_cases h4 : nI n - y < x
        · rw [if_pos h4, if_neg]
          intro q
          have q1 := Int32.le_iff_toInt_le.mp q.2.2
          have q2 := Int32.lt_iff_toInt_lt.mp h4
          rw [ex] at q1
          rw [ey] at q2
          omega
        · rw [if_neg h4, if_pos]
          refine ⟨Int32.not_lt.mp h1, Int32.not_lt.mp h2, ?_⟩
          rw [Int32.le_iff_toInt_le, ex]
          have q2 := Int32.le_iff_toInt_le.mp (Int32.not_lt.mp h4)
          rw [ey] at q2
          omega
theorem sp_of {n : Nat} (hn : n ≤ 40) {x y : Int32} (g : 0 ≤ x ∧ 0 ≤ y ∧ y ≤ nI n - x) : ∃ a k : Nat, x = nI a ∧ y = nI k ∧ a + k ≤ n := by
  have x0 := Int32.le_iff_toInt_le.mp g.1
  have y0 := Int32.le_iff_toInt_le.mp g.2.1
  rw [show (0 : Int32).toInt = 0 from rfl] at x0 y0
  have x1 := Int32.toInt_lt x
  have ex : (nI n - x).toInt = (n : Int) - x.toInt := by
    rw [Int32.toInt_sub, nI_toInt (by omega)]
    apply Int.bmod_eq_of_le <;> omega
  have q1 := Int32.le_iff_toInt_le.mp g.2.2
  rw [ex] at q1
  refine ⟨x.toInt.toNat, y.toInt.toNat, Int32.toInt_inj.mp ?_, Int32.toInt_inj.mp ?_, by omega⟩
  · rw [nI_toInt (by omega)]; omega
  · rw [nI_toInt (by omega)]; omega
theorem m1_lt : (-1 : Int32) < 0 := by decide
theorem s_copy {h : Nat} {A : Nat → Nat → Int32} {r : Nat → Int32} {S F : Nat → Nat → Int32} {rb : Nat} {s : Nat → Int32} (R : Rel h A r S F s) (x a y b k : Int32) : Sim h 200 87 [.int x, .int a, .int y, .int b, .int k] A r S F rb s := by
  by_cases g : (0 ≤ x ∧ x < 4) ∧ (0 ≤ y ∧ y < 4)
  · rcases she_3 R.2.2.2.1 x with g1 | ⟨t, ht, rfl, a7, f1⟩ | ⟨t, bt, n, ht, rfl, hbt, hn, a7, f1, a8, f2, a9⟩
    · exact absurd g.1 g1
    · refine sim_f R (k := 5) (x := -1000006) (by decide) ?_ ?_
      · rw [ev_X5_copy _ _ _ _ _ _ _ (obR A s r)]
        simp only [cb_eq, cb_ne, cb_lt, cb_ge, cb_gt, cb_le, cb_q, cb_qL, ri_s, rl_s, rr_s, rv_s, Option.bind_some, i10, cond_true, cond_false, lgR4, sgR4, lgR7, sgR7, lgR11, sgR11, lgR12, sgR12, lgR13, sgR13, lgR14, sgR14, lgR15, sgR15, lfR_1, lfR_2, lfR_3, lfR_5, lfR_6, lfR_8, lfR_9, lfR_10, m_isSheet, r_f0, r_f5, ldR7 A s r ht, a7, m1_lt, if_true]
        exact if2y g _ _
      · rw [ev_X4_copy _ _ _ _ _ _ _ (obD S 0 s F rb)]
        simp only [cb_eq, cb_ne, cb_lt, cb_ge, cb_gt, cb_le, cb_q, cb_qL, ri_s, rl_s, rr_s, rv_s, Option.bind_some, i10, cond_true, cond_false, lfD0, lfD1, lfD2, lfD3, lfD4, lfD5, lfD6, lgD7, lgD8, sgD7, sgD8, c_isSheet, c_f0, c_f5, qD S 0 s F rb ht]
        refine (if2y g _ _).trans ?_
        obtain ⟨u, hu, rfl⟩ := ix_rg (n := 4) (by decide) g.2.1 g.2.2
        simp only [cb_eq, cb_ne, cb_lt, cb_ge, cb_gt, cb_le, cb_q, cb_qL, ri_s, rl_s, rr_s, rv_s, Option.bind_some, i10, cond_true, cond_false, qD S 0 s F rb hu, c_isMissing S 0 s F rb ht, f1, not_true_eq_false, if_true, if_false, c_f5]
        exact if_neg (by decide)
    · have bz := b_nz hbt
      rcases she_3 R.2.2.2.1 y with g1 | ⟨u, hu, rfl, b7, d1⟩ | ⟨u, bu, m, hu, rfl, hbu, hm, b7, d1, b8, d2, b9⟩
      · exact absurd g.2 g1
      · refine sim_f R (k := 5) (x := -1000006) (by decide) ?_ ?_
        · rw [ev_X5_copy _ _ _ _ _ _ _ (obR A s r)]
          simp only [cb_eq, cb_ne, cb_lt, cb_ge, cb_gt, cb_le, cb_q, cb_qL, ri_s, rl_s, rr_s, rv_s, Option.bind_some, i10, cond_true, cond_false, lgR4, sgR4, lgR7, sgR7, lgR11, sgR11, lgR12, sgR12, lgR13, sgR13, lgR14, sgR14, lgR15, sgR15, lfR_1, lfR_2, lfR_3, lfR_5, lfR_6, lfR_8, lfR_9, lfR_10, m_isSheet, r_f0, r_f5, ldR7 A s r ht, ldR7 A s r hu, a7, b7, show ¬ nI bt < 0 from Int32.not_lt.mpr bz.2, show ¬ (0 : Int32) ≤ -1 from by decide, if_false]
          exact if2y g _ _
        · rw [ev_X4_copy _ _ _ _ _ _ _ (obD S 0 s F rb)]
          simp only [cb_eq, cb_ne, cb_lt, cb_ge, cb_gt, cb_le, cb_q, cb_qL, ri_s, rl_s, rr_s, rv_s, Option.bind_some, i10, cond_true, cond_false, lfD0, lfD1, lfD2, lfD3, lfD4, lfD5, lfD6, lgD7, lgD8, sgD7, sgD8, c_isSheet, c_f0, c_f5, qD S 0 s F rb ht, qD S 0 s F rb hu, c_isMissing S 0 s F rb ht, c_isMissing S 0 s F rb hu, f1, d1, bz.1, not_true_eq_false, not_false_eq_true, if_true, if_false]
          exact if2y g _ _
      · have cz := b_nz hbu
        have hbb : (nI bt = nI bu) = (bt = bu) := propext (nI_eq (by omega) (by omega))
        by_cases eb : bt = bu
        · subst eb
          by_cases g3 : (0 ≤ a ∧ 0 ≤ k ∧ k ≤ nI n - a) ∧ (0 ≤ b ∧ 0 ≤ k ∧ k ≤ nI m - b)
          · obtain ⟨i, l, ei, el, hil⟩ := sp_of hn g3.1
            obtain ⟨j, l', ej, el', hjl⟩ := sp_of hm g3.2
            have : l' = l := (nI_eq (by omega) (by omega)).mp (el'.symm.trans el)
            subst this
            have m0 : rv_EV 200 [.ref 0, .int (nI t), .int a, .int (nI u), .int b, .int k] (mR A s r) = some (some (.int (nI l')), mR (upA A 9 (cpS (A 9) (A 9) (40 * t + i) (40 * u + j) l')) s r) := by
              rw [ev_X5_copy _ _ _ _ _ _ _ (obR A s r)]
              simp only [cb_eq, cb_ne, cb_lt, cb_ge, cb_gt, cb_le, cb_q, cb_qL, ri_s, rl_s, rr_s, rv_s, Option.bind_some, i10, cond_true, cond_false, lgR4, sgR4, lgR7, sgR7, lgR11, sgR11, lgR12, sgR12, lgR13, sgR13, lgR14, sgR14, lgR15, sgR15, lfR_1, lfR_2, lfR_3, lfR_5, lfR_6, lfR_8, lfR_9, lfR_10, m_isSheet, r_f0, r_f5, ldR7 A s r ht, ldR7 A s r hu, ldR8 A s r ht, ldR8 A s r hu, a7, b7, a8, b8, show ¬ nI bt < 0 from Int32.not_lt.mpr bz.2, bz.2, show ¬ a < 0 from Int32.not_lt.mpr g3.1.1, show ¬ b < 0 from Int32.not_lt.mpr g3.2.1, show ¬ k < 0 from Int32.not_lt.mpr g3.1.2.1, show ¬ nI n - a < k from Int32.not_lt.mpr g3.1.2.2, g3.2.2.2, if_true, if_false]
              refine (if2y g _ _).trans ?_
              rw [ei, ej, el, c40_, c40_]
              exact r_copy A s r (by omega) (by omega)
            have c0 : rv_EV 87 [.ref 0, .int (nI t), .int a, .int (nI u), .int b, .int k] (cR S 0 s F rb) = some (some (.int (nI l')), cR S 0 s (upA F (sn u) (cpS (F (sn t)) (F (sn u)) i j l')) rb) := by
              rw [ev_X4_copy _ _ _ _ _ _ _ (obD S 0 s F rb)]
              simp only [cb_eq, cb_ne, cb_lt, cb_ge, cb_gt, cb_le, cb_q, cb_qL, ri_s, rl_s, rr_s, rv_s, Option.bind_some, i10, cond_true, cond_false, lfD0, lfD1, lfD2, lfD3, lfD4, lfD5, lfD6, lgD7, lgD8, sgD7, sgD8, c_isSheet, c_f0, c_f5, qD S 0 s F rb ht, qD S 0 s F rb hu, c_isMissing S 0 s F rb ht, c_isMissing S 0 s F rb hu, f1, d1, bz.1, not_false_eq_true, lgH1D S 0 s F rb ht, lgH1D S 0 s F rb hu, if_true, if_false, c_span S s F rb ht hn f2, c_span S s F rb hu hm d2, lfHD S 0 s F rb ht, lfHD S 0 s F rb hu]
              refine (if2y g _ _).trans ((if2y g3 _ _).trans ?_)
              rw [ei, ej, el, c_cpy S s F rb ht hu (by omega) (by omega)]
              rfl
            refine ⟨_, _, _, _, _, _, _, m0, c0, rel_she R hu (fun p h7 h8 h9 => upA_n A h9 _) (fun i hi => rfl) (fun i hi => rfl) (fun q hq => ?_) (fun p h1 h2 => upA_n F h2 _) (Or.inr ⟨bt, m, hbt, hm, b7, ?_, b8, ?_, fun q hq => ?_⟩), ⟨_, rfl⟩⟩
            · rw [upA_s]; unfold cpS; rw [if_neg (by omega)]
            · rw [upA_n _ (by unfold sh sn; omega)]; exact d1
            · rw [upA_n _ (by unfold sh sn; omega)]; exact d2
            · rw [upA_s, upA_s]
              unfold cpS
              by_cases e : j ≤ q ∧ q < j + l'
              · rw [if_pos (by omega), if_pos e, ← a9 _ (by omega)]
                congr 1
                omega
              · rw [if_neg (by omega), if_neg e, b9 q hq]
          · refine sim_f R (k := 0) (x := -1000001) (by decide) ?_ ?_
            · rw [ev_X5_copy _ _ _ _ _ _ _ (obR A s r)]
              simp only [cb_eq, cb_ne, cb_lt, cb_ge, cb_gt, cb_le, cb_q, cb_qL, ri_s, rl_s, rr_s, rv_s, Option.bind_some, i10, cond_true, cond_false, lgR4, sgR4, lgR7, sgR7, lgR11, sgR11, lgR12, sgR12, lgR13, sgR13, lgR14, sgR14, lgR15, sgR15, lfR_1, lfR_2, lfR_3, lfR_5, lfR_6, lfR_8, lfR_9, lfR_10, m_isSheet, r_f0, r_f5, ldR7 A s r ht, ldR7 A s r hu, ldR8 A s r ht, ldR8 A s r hu, a7, b7, a8, b8, show ¬ nI bt < 0 from Int32.not_lt.mpr bz.2, bz.2, if_true, if_false]
              refine (if2y g _ _).trans ?_
              by_cases q1 : a < 0
              · rw [if_pos q1]
              · by_cases q2 : b < 0
                · rw [if_neg q1, if_pos q2]
                · by_cases q3 : k < 0
                  · rw [if_neg q1, if_neg q2, if_pos q3]
                  · by_cases q4 : nI n - a < k
                    · rw [if_neg q1, if_neg q2, if_neg q3, if_pos q4]
                    · rw [if_neg q1, if_neg q2, if_neg q3, if_neg q4, if_neg]
                      intro q5
                      exact g3 ⟨⟨Int32.not_lt.mp q1, Int32.not_lt.mp q3, Int32.not_lt.mp q4⟩, Int32.not_lt.mp q2, Int32.not_lt.mp q3, q5⟩
            · rw [ev_X4_copy _ _ _ _ _ _ _ (obD S 0 s F rb)]
              simp only [cb_eq, cb_ne, cb_lt, cb_ge, cb_gt, cb_le, cb_q, cb_qL, ri_s, rl_s, rr_s, rv_s, Option.bind_some, i10, cond_true, cond_false, lfD0, lfD1, lfD2, lfD3, lfD4, lfD5, lfD6, lgD7, lgD8, sgD7, sgD8, c_isSheet, c_f0, c_f5, qD S 0 s F rb ht, qD S 0 s F rb hu, c_isMissing S 0 s F rb ht, c_isMissing S 0 s F rb hu, f1, d1, bz.1, not_false_eq_true, lgH1D S 0 s F rb ht, lgH1D S 0 s F rb hu, if_true, if_false, c_span S s F rb ht hn f2, c_span S s F rb hu hm d2, lfHD S 0 s F rb ht, lfHD S 0 s F rb hu]
              exact (if2y g _ _).trans (if2n g3 _ _)
        · refine sim_f R (k := 2) (x := -1000003) (by decide) ?_ ?_
          · rw [ev_X5_copy _ _ _ _ _ _ _ (obR A s r)]
            simp only [cb_eq, cb_ne, cb_lt, cb_ge, cb_gt, cb_le, cb_q, cb_qL, ri_s, rl_s, rr_s, rv_s, Option.bind_some, i10, cond_true, cond_false, lgR4, sgR4, lgR7, sgR7, lgR11, sgR11, lgR12, sgR12, lgR13, sgR13, lgR14, sgR14, lgR15, sgR15, lfR_1, lfR_2, lfR_3, lfR_5, lfR_6, lfR_8, lfR_9, lfR_10, m_isSheet, r_f0, r_f2, r_f5, ldR7 A s r ht, ldR7 A s r hu, a7, b7, show ¬ nI bt < 0 from Int32.not_lt.mpr bz.2, cz.2, hbb, eb, if_true, if_false]
            exact if2y g _ _
          · rw [ev_X4_copy _ _ _ _ _ _ _ (obD S 0 s F rb)]
            simp only [cb_eq, cb_ne, cb_lt, cb_ge, cb_gt, cb_le, cb_q, cb_qL, ri_s, rl_s, rr_s, rv_s, Option.bind_some, i10, cond_true, cond_false, lfD0, lfD1, lfD2, lfD3, lfD4, lfD5, lfD6, lgD7, lgD8, sgD7, sgD8, c_isSheet, c_f0, c_f2, c_f5, qD S 0 s F rb ht, qD S 0 s F rb hu, c_isMissing S 0 s F rb ht, c_isMissing S 0 s F rb hu, f1, d1, bz.1, cz.1, not_false_eq_true, lgH1D S 0 s F rb ht, lgH1D S 0 s F rb hu, hbb, eb, if_true, if_false]
            exact if2y g _ _
  · refine sim_f R (k := 0) (x := -1000001) (by decide) ?_ ?_
    · rw [ev_X5_copy _ _ _ _ _ _ _ (obR A s r)]
      simp only [cb_eq, cb_ne, cb_lt, cb_ge, cb_gt, cb_le, cb_q, cb_qL, ri_s, rl_s, rr_s, rv_s, Option.bind_some, i10, cond_true, cond_false, m_isSheet, r_f0]
      exact if2n g _ _
    · rw [ev_X4_copy _ _ _ _ _ _ _ (obD S 0 s F rb)]
      simp only [cb_eq, cb_ne, cb_lt, cb_ge, cb_gt, cb_le, cb_q, cb_qL, ri_s, rl_s, rr_s, rv_s, Option.bind_some, i10, cond_true, cond_false, c_isSheet, c_f0]
      exact if2n g _ _
