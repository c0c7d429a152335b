/-! SHEETS -/
theorem upB_1 (A : Nat → Nat → Int32) (s : Nat → Int32) {p : Nat} (hp : ¬ p = 1) (j : Nat) (x : Int32) : upB (upA A 1 s) p j x = upA (upB A p j x) 1 s := by
  unfold upB
  rw [upA_n A hp, upA_comm A (fun q => hp q.symm)]
theorem stR5 (A : Nat → Nat → Int32) (s r : Nat → Int32) {j : Nat} (h : j < 8) (x : Int32) : rv_stI (mR A s r) 5 (nI j) x = some (mR (upB A 5 j x) s r) := (stM5 (upA A 1 s) r h x).trans (by rw [upB_1 A s (by decide)]; rfl)
theorem ldR6 (A : Nat → Nat → Int32) (s r : Nat → Int32) {j : Nat} (h : j < 120) : rv_ldI (mR A s r) 6 (nI j) = some (A 6 j) := ldM6 (upA A 1 s) r h
theorem stR6 (A : Nat → Nat → Int32) (s r : Nat → Int32) {j : Nat} (h : j < 120) (x : Int32) : rv_stI (mR A s r) 6 (nI j) x = some (mR (upB A 6 j x) s r) := (stM6 (upA A 1 s) r h x).trans (by rw [upB_1 A s (by decide)]; rfl)
theorem ldR7 (A : Nat → Nat → Int32) (s r : Nat → Int32) {j : Nat} (h : j < 4) : rv_ldI (mR A s r) 7 (nI j) = some (A 7 j) := ldM7 (upA A 1 s) r h
theorem stR7 (A : Nat → Nat → Int32) (s r : Nat → Int32) {j : Nat} (h : j < 4) (x : Int32) : rv_stI (mR A s r) 7 (nI j) x = some (mR (upB A 7 j x) s r) := (stM7 (upA A 1 s) r h x).trans (by rw [upB_1 A s (by decide)]; rfl)
theorem ldR8 (A : Nat → Nat → Int32) (s r : Nat → Int32) {j : Nat} (h : j < 4) : rv_ldI (mR A s r) 8 (nI j) = some (A 8 j) := ldM8 (upA A 1 s) r h
theorem stR8 (A : Nat → Nat → Int32) (s r : Nat → Int32) {j : Nat} (h : j < 4) (x : Int32) : rv_stI (mR A s r) 8 (nI j) x = some (mR (upB A 8 j x) s r) := (stM8 (upA A 1 s) r h x).trans (by rw [upB_1 A s (by decide)]; rfl)
theorem ldR9 (A : Nat → Nat → Int32) (s r : Nat → Int32) {j : Nat} (h : j < 160) : rv_ldI (mR A s r) 9 (nI j) = some (A 9 j) := ldM9 (upA A 1 s) r h
theorem stR9 (A : Nat → Nat → Int32) (s r : Nat → Int32) {j : Nat} (h : j < 160) (x : Int32) : rv_stI (mR A s r) 9 (nI j) x = some (mR (upB A 9 j x) s r) := (stM9 (upA A 1 s) r h x).trans (by rw [upB_1 A s (by decide)]; rfl)
theorem qD (S : Nat → Nat → Int32) (j : Nat) (s : Nat → Int32) (F : Nat → Nat → Int32) (rb : Nat) {i : Nat} (hi : i < 4) : rv_ldQ (cR S j s F rb) 25 (nI i) = some (sh i) := ldQ _ F rb hi
theorem lfHD (S : Nat → Nat → Int32) (j : Nat) (s : Nat → Int32) (F : Nat → Nat → Int32) (rb : Nat) {i : Nat} (hi : i < 4) : rv_ldFR (cR S j s F rb) (sh i) 0 0 = some (sn i) := lfH _ F rb hi
theorem lgH1D (S : Nat → Nat → Int32) (j : Nat) (s : Nat → Int32) (F : Nat → Nat → Int32) (rb : Nat) {i : Nat} (hi : i < 4) : rv_ldFI (cR S j s F rb) (sh i) 0 1 = some (F (sh i) 1) := lgH1 _ F rb hi
theorem lgH2D (S : Nat → Nat → Int32) (j : Nat) (s : Nat → Int32) (F : Nat → Nat → Int32) (rb : Nat) {i : Nat} (hi : i < 4) : rv_ldFI (cR S j s F rb) (sh i) 0 2 = some (F (sh i) 2) := lgH2 _ F rb hi
theorem sgH1D (S : Nat → Nat → Int32) (j : Nat) (s : Nat → Int32) (F : Nat → Nat → Int32) (rb : Nat) {i : Nat} (hi : i < 4) (x : Int32) : rv_stF (cR S j s F rb) (sh i) 0 1 (.int x) = some (cR S j s (upB F (sh i) 1 x) rb) := sgH1 _ F rb hi x
theorem sgH2D (S : Nat → Nat → Int32) (j : Nat) (s : Nat → Int32) (F : Nat → Nat → Int32) (rb : Nat) {i : Nat} (hi : i < 4) (x : Int32) : rv_stF (cR S j s F rb) (sh i) 0 2 (.int x) = some (cR S j s (upB F (sh i) 2 x) rb) := sgH2 _ F rb hi x
theorem ldHD (S : Nat → Nat → Int32) (j : Nat) (s : Nat → Int32) (F : Nat → Nat → Int32) (rb : Nat) {i : Nat} (hi : i < 4) {k : Nat} (h : k < 40) : rv_ldI (cR S j s F rb) (sn i) (nI k) = some (F (sn i) k) := ldH _ F rb hi h
theorem stHD (S : Nat → Nat → Int32) (j : Nat) (s : Nat → Int32) (F : Nat → Nat → Int32) (rb : Nat) {i : Nat} (hi : i < 4) {k : Nat} (h : k < 40) (x : Int32) : rv_stI (cR S j s F rb) (sn i) (nI k) x = some (cR S j s (upB F (sn i) k x) rb) := stH _ F rb hi h x
theorem obHD (S : Nat → Nat → Int32) (j : Nat) (s : Nat → Int32) (F : Nat → Nat → Int32) (rb : Nat) {i : Nat} (hi : i < 4) : (rv_obj (cR S j s F rb) (sh i) 0).isSome = true := lt4 (P := fun i => (rv_obj (cR S j s F rb) (sh i) 0).isSome = true) rfl rfl rfl rfl hi
theorem c_isMissing (S : Nat → Nat → Int32) (j : Nat) (s : Nat → Int32) (F : Nat → Nat → Int32) (rb : Nat) {i : Nat} (hi : i < 4) : rv_EV 6 [.ref (sh i)] (cR S j s F rb) = some (some (.int (if F (sh i) 1 = 0 then 1 else 0)), cR S j s F rb) := by
  rw [ev_X1_isMissing _ _ (obHD S j s F rb hi)]
  simp only [cb_eq, cb_ne, cb_lt, cb_ge, cb_gt, cb_le, cb_q, cb_qL, ri_s, rl_s, rr_s, rv_s, Option.bind_some, i10, cond_true, cond_false, lgH1D S j s F rb hi]
  by_cases e : F (sh i) 1 = 0
  · rw [if_pos e, if_pos e]
  · rw [if_neg e, if_neg e]
theorem c_lack0 (S : Nat → Nat → Int32) (s : Nat → Int32) (F : Nat → Nat → Int32) (rb : Nat) {x : Int32} (g : ¬ (0 ≤ x ∧ x < 4)) : rv_EV 103 [.ref 0, .int x] (cR S 0 s F rb) = some (some (.int 0), cR S 0 s F rb) := by
  rw [ev_X4_lackOf _ _ _ (obD S 0 s F rb)]
  simp only [cb_eq, cb_ne, cb_lt, cb_ge, cb_gt, cb_le, cb_q, cb_qL, ri_s, rl_s, rr_s, rv_s, Option.bind_some, i10, cond_true, cond_false, lfD0, lfD1, lfD2, lfD3, lfD4, lfD5, lfD6, lgD7, lgD8, sgD7, sgD8, c_isSheet]
  exact if_pos g
theorem nn_lt {t n : Nat} (ht : t < n) (hn : n < 2 ^ 31) : 0 ≤ nI t ∧ nI t < nI n := ⟨nI_pos' (by omega), nI_lt ht hn⟩
theorem c_lack (S : Nat → Nat → Int32) (s : Nat → Int32) (F : Nat → Nat → Int32) (rb : Nat) {t : Nat} (ht : t < 4) : rv_EV 103 [.ref 0, .int (nI t)] (cR S 0 s F rb) = some (some (.int (if F (sh t) 1 = 0 then 5 else -1)), cR S 0 s F rb) := by
  rw [ev_X4_lackOf _ _ _ (obD S 0 s F rb)]
  simp only [cb_eq, cb_ne, cb_lt, cb_ge, cb_gt, cb_le, cb_q, cb_qL, ri_s, rl_s, rr_s, rv_s, Option.bind_some, i10, cond_true, cond_false, lfD0, lfD1, lfD2, lfD3, lfD4, lfD5, lfD6, lgD7, lgD8, sgD7, sgD8, c_isSheet, qD S 0 s F rb ht, c_isMissing S 0 s F rb ht]
  refine (if1y (nn_lt ht (by decide)) _ _).trans ?_
  by_cases e : F (sh t) 1 = 0
  · rw [if_neg (fun q => q e), if_pos e]
  · rw [if_pos e, if_neg e]
theorem r_wants0 (A : Nat → Nat → Int32) (s r : Nat → Int32) {x : Int32} (g : ¬ (0 ≤ x ∧ x < 4)) : rv_EV 201 [.ref 0, .int x] (mR A s r) = some (some (.int (-1000001)), mR A s r) := by
  rw [ev_X5_wants _ _ _ (obR A s r)]
  simp only [cb_eq, cb_ne, cb_lt, cb_ge, cb_gt, cb_le, cb_q, cb_qL, ri_s, rl_s, rr_s, rv_s, Option.bind_some, i10, cond_true, cond_false, m_isSheet]
  exact if_pos g
theorem r_wants (A : Nat → Nat → Int32) (s r : Nat → Int32) {t : Nat} (ht : t < 4) : rv_EV 201 [.ref 0, .int (nI t)] (mR A s r) = some (some (.int (if 0 ≤ A 7 t then 0 else -1000006)), mR A s r) := by
  rw [ev_X5_wants _ _ _ (obR A s r)]
  simp only [cb_eq, cb_ne, cb_lt, cb_ge, cb_gt, cb_le, cb_q, cb_qL, ri_s, rl_s, rr_s, rv_s, Option.bind_some, i10, cond_true, cond_false, lgR4, sgR4, lgR7, sgR7, lgR11, sgR11, lgR12, sgR12, lgR13, sgR13, lgR14, sgR14, lgR15, sgR15, lfR_1, lfR_2, lfR_3, lfR_5, lfR_6, lfR_8, lfR_9, lfR_10, m_isSheet, ldR7 A s r ht]
  refine (if1y (nn_lt ht (by decide)) _ _).trans ?_
  by_cases e : 0 ≤ A 7 t
  · rw [if_pos e, if_pos e]
  · rw [if_neg e, if_neg e]
/-- a sheet changes on both sides -/
theorem rel_she {h : Nat} {A : Nat → Nat → Int32} {r : Nat → Int32} {S F : Nat → Nat → Int32} {s : Nat → Int32} (R : Rel h A r S F s) {t : Nat} (ht : t < 4) {A' F' : Nat → Nat → Int32} (ea : ∀ p, ¬ p = 7 → ¬ p = 8 → ¬ p = 9 → A' p = A p) (e7 : ∀ i, ¬ i = t → A' 7 i = A 7 i) (e8 : ∀ i, ¬ i = t → A' 8 i = A 8 i) (e9 : ∀ i, (i < 40 * t ∨ 40 * t + 40 ≤ i) → A' 9 i = A 9 i) (ef : ∀ p, ¬ p = sh t → ¬ p = sn t → F' p = F p) (hn : sheR A' F' t) : Rel h A' r S F' s := by
  obtain ⟨h1, h2, h3, h4, h5⟩ := R
  refine ⟨h1, ?_, ?_, fun i hi => ?_, ?_⟩
  · unfold kepR at h2 ⊢
    rw [ea 2 (by decide) (by decide) (by decide), ef 0 (by unfold sh; omega) (by unfold sn; omega)]
    exact h2
  · unfold tapR at h3 ⊢
    rw [ea 6 (by decide) (by decide) (by decide), ef 0 (by unfold sh; omega) (by unfold sn; omega), ef 34 (by unfold sh; omega) (by unfold sn; omega)]
    exact h3
  · by_cases e : i = t
    · subst e; exact hn
    · have q := h4 i hi
      unfold sheR at q ⊢
      rw [e7 i e, e8 i e, ef (sh i) (by unfold sh; omega) (by unfold sh sn; omega), ef (sn i) (by unfold sh sn; omega) (by unfold sn; omega)]
      rcases q with q | ⟨b, n, q1, q2, q3, q4, q5, q6, q7⟩
      · exact Or.inl q
      · exact Or.inr ⟨b, n, q1, q2, q3, q4, q5, q6, fun k hk => by rw [e9 _ (by omega)]; exact q7 k hk⟩
  · unfold fndR at h5 ⊢
    rw [ea 5 (by decide) (by decide) (by decide), ef 37 (by unfold sh; omega) (by unfold sn; omega)]
    exact h5
/-- where a sheet is asked for: there is none, it is missing, or it is there -/
theorem she_3 {A F : Nat → Nat → Int32} (h4 : ∀ i, i < 4 → sheR A F i) (x : Int32) : ¬ (0 ≤ x ∧ x < 4) ∨ (∃ t, t < 4 ∧ x = nI t ∧ A 7 t = -1 ∧ F (sh t) 1 = 0) ∨ ∃ t b n : Nat, t < 4 ∧ x = nI t ∧ (b = 8 ∨ b = 16 ∨ b = 32) ∧ n ≤ 40 ∧ A 7 t = nI b ∧ F (sh t) 1 = nI b ∧ A 8 t = nI n ∧ F (sh t) 2 = nI n ∧ ∀ k, k < 40 → A 9 (40 * t + k) = F (sn t) k := by
  by_cases g : 0 ≤ x ∧ x < 4
  · obtain ⟨t, ht, rfl⟩ := ix_rg (n := 4) (by decide) g.1 g.2
    rcases h4 t ht with ⟨a, b⟩ | ⟨b, n, q⟩
    · exact Or.inr (Or.inl ⟨t, ht, rfl, a, b⟩)
    · exact Or.inr (Or.inr ⟨t, b, n, ht, rfl, q⟩)
  · exact Or.inl g
theorem c40_ (t k : Nat) : (40 * nI t) + nI k = nI (40 * t + k) := by
  rw [show (40 : Int32) = nI 40 from rfl, pk_mul, nI_add]
theorem b_nz {b : Nat} (h : b = 8 ∨ b = 16 ∨ b = 32) : ¬ nI b = 0 ∧ 0 ≤ nI b := by
  rcases h with rfl | rfl | rfl <;> decide
/-! sheet -/
def zrS (A : Nat → Nat → Int32) (t k : Nat) : Nat → Nat → Int32 := upA A 9 (fun i => if 40 * t ≤ i ∧ i < 40 * t + k then 0 else A 9 i)
theorem r_zero (A : Nat → Nat → Int32) (s r : Nat → Int32) {t : Nat} (ht : t < 4) : rv_GO rc_X5_sheet 94 [some (.ref 0), some (.int (nI t)), none, none, some (.int 0)] [] (mR A s r) = some (some (.int (A 8 t)), mR (zrS A t 40) s r) := by
  have st : ∀ k, k ≤ 40 → rv_GO rc_X5_sheet 94 [some (.ref 0), some (.int (nI t)), none, none, some (.int 0)] [] (mR A s r) = rv_GO rc_X5_sheet 94 [some (.ref 0), some (.int (nI t)), none, none, some (.int (nI k))] [] (mR (zrS A t k) s r) := by
    intro k
    induction k with
    | zero =>
      intro _
      have e : zrS A t 0 = A := by
        unfold zrS
        rw [show (fun i => if 40 * t ≤ i ∧ i < 40 * t + 0 then 0 else A 9 i) = A 9 by funext i; rw [if_neg (by omega)], upA_self]
      rw [e]
      rfl
    | succ k ih =>
      intro hk
      rw [ih (by omega), bk_X5_sheet_94]
      simp only [cb_eq, cb_ne, cb_lt, cb_ge, cb_gt, cb_le, cb_q, cb_qL, ri_s, rl_s, rr_s, rv_s, Option.bind_some, i10, cond_true, cond_false, lgR4, sgR4, lgR7, sgR7, lgR11, sgR11, lgR12, sgR12, lgR13, sgR13, lgR14, sgR14, lgR15, sgR15, lfR_1, lfR_2, lfR_3, lfR_5, lfR_6, lfR_8, lfR_9, lfR_10, show ¬ (40 : Int32) ≤ nI k from nI_ge (a := k) (b := 40) (by omega) (by decide), if_false, c40_, stR9 _ s r (show 40 * t + k < 160 by omega), nI_1]
      unfold zrS
      rw [upB_up]
      have e : upd (fun i => if 40 * t ≤ i ∧ i < 40 * t + k then 0 else A 9 i) (40 * t + k) 0 = fun i => if 40 * t ≤ i ∧ i < 40 * t + (k + 1) then 0 else A 9 i := by
        funext i
        simp only [upd]
        grind
      rw [e]
  rw [st 40 (Nat.le_refl _), bk_X5_sheet_94]
  simp only [cb_eq, cb_ne, cb_lt, cb_ge, cb_gt, cb_le, cb_q, cb_qL, ri_s, rl_s, rr_s, rv_s, Option.bind_some, i10, cond_true, cond_false, lgR4, sgR4, lgR7, sgR7, lgR11, sgR11, lgR12, sgR12, lgR13, sgR13, lgR14, sgR14, lgR15, sgR15, lfR_1, lfR_2, lfR_3, lfR_5, lfR_6, lfR_8, lfR_9, lfR_10, show (40 : Int32) ≤ nI 40 from by decide, if_true, ldR8 _ s r ht]
  rfl
def zcS (F : Nat → Nat → Int32) (t k : Nat) : Nat → Nat → Int32 := upA F (sn t) (fun i => if i < k then 0 else F (sn t) i)
theorem c_begin (S : Nat → Nat → Int32) (s : Nat → Int32) (F : Nat → Nat → Int32) (rb : Nat) {t : Nat} (ht : t < 4) (b n : Int32) : rv_EV 5 [.ref (sh t), .int b, .int n] (cR S 0 s F rb) = some (none, cR S 0 s (zcS (upB (upB F (sh t) 1 b) (sh t) 2 n) t 40) rb) := by
  have st : ∀ (F : Nat → Nat → Int32) k, k ≤ 40 → rv_GO rc_X1_begin 12 [some (.ref (sh t)), none, none, some (.int 0)] [] (cR S 0 s F rb) = rv_GO rc_X1_begin 12 [some (.ref (sh t)), none, none, some (.int (nI k))] [] (cR S 0 s (zcS F t k) rb) := by
    intro F k
    induction k with
    | zero =>
      intro _
      have e : zcS F t 0 = F := by
        unfold zcS
        rw [show (fun i => if i < 0 then 0 else F (sn t) i) = F (sn t) by funext i; rw [if_neg (by omega)], upA_self]
      rw [e]
      rfl
    | succ k ih =>
      intro hk
      rw [ih (by omega), bk_X1_begin_12]
      simp only [cb_eq, cb_ne, cb_lt, cb_ge, cb_gt, cb_le, cb_q, cb_qL, ri_s, rl_s, rr_s, rv_s, Option.bind_some, i10, cond_true, cond_false, lfHD S 0 s _ rb ht, show ¬ (40 : Int32) ≤ nI k from nI_ge (a := k) (b := 40) (by omega) (by decide), if_false, stHD S 0 s _ rb ht (show k < 40 by omega), nI_1]
      unfold zcS
      rw [upB_up]
      have e : upd (fun i => if i < k then 0 else F (sn t) i) k 0 = fun i => if i < k + 1 then 0 else F (sn t) i := by
        funext i
        simp only [upd]
        grind
      rw [e]
  rw [ev_X1_begin _ _ _ _ (obHD S 0 s F rb ht)]
  simp only [cb_eq, cb_ne, cb_lt, cb_ge, cb_gt, cb_le, cb_q, cb_qL, ri_s, rl_s, rr_s, rv_s, Option.bind_some, i10, cond_true, cond_false, sgH1D S 0 s _ rb ht, sgH2D S 0 s _ rb ht]
  rw [st _ 40 (Nat.le_refl _), bk_X1_begin_12]
  simp only [cb_eq, cb_ne, cb_lt, cb_ge, cb_gt, cb_le, cb_q, cb_qL, ri_s, rl_s, rr_s, rv_s, Option.bind_some, i10, cond_true, cond_false, show (40 : Int32) ≤ nI 40 from by decide, if_true]
theorem s_sheet {h : Nat} {A : Nat → Nat → Int32} {r : Nat → Int32} {S F : Nat → Nat → Int32} {rb : Nat} {s : Nat → Int32} (R : Rel h A r S F s) (x y z : Int32) : Sim h 198 85 [.int x, .int y, .int z] A r S F rb s := by
  by_cases g : (0 ≤ x ∧ x < 4) ∧ (y = 0 ∨ y = 8 ∨ y = 16 ∨ y = 32)
  · obtain ⟨t, ht, rfl⟩ := ix_rg (n := 4) (by decide) g.1.1 g.1.2
    have m0 : rv_EV 198 [.ref 0, .int (nI t), .int y, .int z] (mR A s r) = rv_GO rc_X5_sheet 36 [some (.ref 0), some (.int (nI t)), some (.int y), some (.int z), none] [] (mR A s r) := by
      rw [ev_X5_sheet _ _ _ _ _ (obR A s r)]
      simp only [cb_eq, cb_ne, cb_lt, cb_ge, cb_gt, cb_le, cb_q, cb_qL, ri_s, rl_s, rr_s, rv_s, Option.bind_some, i10, cond_true, cond_false, m_isSheet, r_f0]
      refine (if1y g.1 _ _).trans ?_
      rcases g.2 with e | e | e | e <;> subst e <;> rfl
    have c0 : rv_EV 85 [.ref 0, .int (nI t), .int y, .int z] (cR S 0 s F rb) = rv_GO rc_X4_sheet 35 [some (.ref 0), some (.int (nI t)), some (.int y), some (.int z)] [] (cR S 0 s F rb) := by
      rw [ev_X4_sheet _ _ _ _ _ (obD S 0 s F rb)]
      simp only [cb_eq, cb_ne, cb_lt, cb_ge, cb_gt, cb_le, cb_q, cb_qL, ri_s, rl_s, rr_s, rv_s, Option.bind_some, i10, cond_true, cond_false, c_isSheet, c_f0]
      refine (if1y g.1 _ _).trans ?_
      rcases g.2 with e | e | e | e <;> subst e <;> rfl
    rw [bk_X5_sheet_36] at m0
    rw [bk_X4_sheet_35] at c0
    by_cases z0 : 0 ≤ z
    · by_cases z40 : z ≤ 40
      · obtain ⟨n, hn, rfl⟩ := ix_le (n := 40) (by decide) z0 z40
        simp only [cb_eq, cb_ne, cb_lt, cb_ge, cb_gt, cb_le, cb_q, cb_qL, ri_s, rl_s, rr_s, rv_s, Option.bind_some, i10, cond_true, cond_false, z0, z40, if_true, lgR4, sgR4, lgR7, sgR7, lgR11, sgR11, lgR12, sgR12, lgR13, sgR13, lgR14, sgR14, lgR15, sgR15, lfR_1, lfR_2, lfR_3, lfR_5, lfR_6, lfR_8, lfR_9, lfR_10, bk_X5_sheet_75, stR7 _ s r ht, stR8 _ s r ht, r_zero _ s r ht] at m0
        simp only [cb_eq, cb_ne, cb_lt, cb_ge, cb_gt, cb_le, cb_q, cb_qL, ri_s, rl_s, rr_s, rv_s, Option.bind_some, i10, cond_true, cond_false, z0, z40, if_true, lfD0, lfD1, lfD2, lfD3, lfD4, lfD5, lfD6, lgD7, lgD8, sgD7, sgD8, qD S 0 s F rb ht, c_begin S s F rb ht] at c0
        have ef : ∀ (b n : Int32) p, ¬ p = sh t → ¬ p = sn t → zcS (upB (upB F (sh t) 1 b) (sh t) 2 n) t 40 p = F p := by
          intro b n p h1 h2
          unfold zcS upB
          rw [upA_n _ h2, upA_n _ h1, upA_n _ h1]
        have ea : ∀ (b n : Int32) p, ¬ p = 7 → ¬ p = 8 → ¬ p = 9 → zrS (upB (upB A 7 t b) 8 t n) t 40 p = A p := by
          intro b n p h1 h2 h3
          unfold zrS upB
          rw [upA_n _ h3, upA_n _ h2, upA_n _ h1]
        have e7 : ∀ (b n : Int32) i, zrS (upB (upB A 7 t b) 8 t n) t 40 7 i = upd (A 7) t b i := by
          intro b n i
          unfold zrS upB
          rw [upA_n _ (by decide), upA_n _ (by decide), upA_s]
        have e8 : ∀ (b n : Int32) i, zrS (upB (upB A 7 t b) 8 t n) t 40 8 i = upd (A 8) t n i := by
          intro b n i
          unfold zrS upB
          rw [upA_n _ (by decide), upA_s, upA_n _ (by decide)]
        have e9 : ∀ (b n : Int32) i, zrS (upB (upB A 7 t b) 8 t n) t 40 9 i = if 40 * t ≤ i ∧ i < 40 * t + 40 then 0 else A 9 i := by
          intro b n i
          unfold zrS upB
          rw [upA_s, upA_n _ (by decide), upA_n _ (by decide)]
        have f1 : ∀ (b n : Int32), zcS (upB (upB F (sh t) 1 b) (sh t) 2 n) t 40 (sh t) 1 = b ∧ zcS (upB (upB F (sh t) 1 b) (sh t) 2 n) t 40 (sh t) 2 = n ∧ ∀ k, k < 40 → zcS (upB (upB F (sh t) 1 b) (sh t) 2 n) t 40 (sn t) k = 0 := by
          intro b n
          have ne : ¬ sh t = sn t := by unfold sh sn; omega
          unfold zcS upB
          rw [upA_n _ ne, upA_s, upA_s]
          refine ⟨rfl, rfl, fun k hk => ?_⟩
          rw [upA_s, if_pos hk]
        by_cases y0 : y = 0
        · subst y0
          simp only [not_true_eq_false, if_true, if_false] at m0 c0
          rw [show upB (upB A 7 t (-1)) 8 t 0 8 t = 0 by unfold upB; rw [upA_s, pk_us]] at m0
          refine ⟨_, _, _, _, _, _, _, m0, c0, rel_she R ht (ea _ _) (fun i hi => by rw [e7, pk_un hi]) (fun i hi => by rw [e8, pk_un hi]) (fun i hi => by rw [e9, if_neg (by omega)]) (ef _ _) (Or.inl ⟨by rw [e7, pk_us], (f1 _ _).1⟩), ⟨_, rfl⟩⟩
        · have hb : ∃ b : Nat, (b = 8 ∨ b = 16 ∨ b = 32) ∧ y = nI b := by
            rcases g.2 with e | e | e | e
            · exact absurd e y0
            · exact ⟨8, by decide, e⟩
            · exact ⟨16, by decide, e⟩
            · exact ⟨32, by decide, e⟩
          obtain ⟨b, hb, rfl⟩ := hb
          simp only [y0, if_false] at m0 c0
          rw [show upB (upB A 7 t (nI b)) 8 t (nI n) 8 t = nI n by unfold upB; rw [upA_s, pk_us]] at m0
          refine ⟨_, _, _, _, _, _, _, m0, c0, rel_she R ht (ea _ _) (fun i hi => by rw [e7, pk_un hi]) (fun i hi => by rw [e8, pk_un hi]) (fun i hi => by rw [e9, if_neg (by omega)]) (ef _ _) (Or.inr ⟨b, n, hb, hn, by rw [e7, pk_us], (f1 _ _).1, by rw [e8, pk_us], (f1 _ _).2.1, fun k hk => by rw [e9, if_pos (by omega), (f1 _ _).2.2 k hk]⟩), ⟨_, rfl⟩⟩
      · simp only [cb_eq, cb_ne, cb_lt, cb_ge, cb_gt, cb_le, cb_q, cb_qL, ri_s, rl_s, rr_s, rv_s, Option.bind_some, i10, cond_true, cond_false, z0, z40, if_true, if_false, r_f0] at m0
        simp only [cb_eq, cb_ne, cb_lt, cb_ge, cb_gt, cb_le, cb_q, cb_qL, ri_s, rl_s, rr_s, rv_s, Option.bind_some, i10, cond_true, cond_false, z0, z40, if_true, if_false, c_f0] at c0
        exact sim_f R (k := 0) (by decide) m0 c0
    · simp only [cb_eq, cb_ne, cb_lt, cb_ge, cb_gt, cb_le, cb_q, cb_qL, ri_s, rl_s, rr_s, rv_s, Option.bind_some, i10, cond_true, cond_false, z0, if_false, r_f6] at m0
      simp only [cb_eq, cb_ne, cb_lt, cb_ge, cb_gt, cb_le, cb_q, cb_qL, ri_s, rl_s, rr_s, rv_s, Option.bind_some, i10, cond_true, cond_false, z0, if_false, c_f6] at c0
      exact sim_f R (k := 6) (by decide) m0 c0
  · have k1 : ∀ {α : Type} (f q : α), (if ¬ (0 ≤ x ∧ x < 4) then f else if y = 0 then q else if y = 8 then q else if y = 16 then q else if y = 32 then q else f) = f := by
      intro α f q
      by_cases g1 : 0 ≤ x ∧ x < 4
      · have g2 : ¬ (y = 0 ∨ y = 8 ∨ y = 16 ∨ y = 32) := fun q => g ⟨g1, q⟩
        rw [if_neg (fun q => q g1), if_neg (fun q => g2 (Or.inl q)), if_neg (fun q => g2 (Or.inr (Or.inl q))), if_neg (fun q => g2 (Or.inr (Or.inr (Or.inl q)))), if_neg (fun q => g2 (Or.inr (Or.inr (Or.inr q))))]
      · rw [if_pos g1]
    refine sim_f R (k := 0) (x := -1000001) (by decide) ?_ ?_
    · rw [ev_X5_sheet _ _ _ _ _ (obR A s r)]
      simp only [cb_eq, cb_ne, cb_lt, cb_ge, cb_gt, cb_le, cb_q, cb_qL, ri_s, rl_s, rr_s, rv_s, Option.bind_some, i10, cond_true, cond_false, m_isSheet, r_f0]
      exact k1 _ _
    · rw [ev_X4_sheet _ _ _ _ _ (obD S 0 s F rb)]
      simp only [cb_eq, cb_ne, cb_lt, cb_ge, cb_gt, cb_le, cb_q, cb_qL, ri_s, rl_s, rr_s, rv_s, Option.bind_some, i10, cond_true, cond_false, c_isSheet, c_f0]
      exact k1 _ _
