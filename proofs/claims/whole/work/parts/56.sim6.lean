/-! THE CALLS: seed, wipe, hold, image, undo, tear, status, left, as -/
theorem lgR4 (A : Nat → Nat → Int32) (s r : Nat → Int32) : rv_ldFI (mR A s r) 0 4 4 = some (r 4) := Eq.trans rfl rfl
theorem sgR4 (A : Nat → Nat → Int32) (s r : Nat → Int32) (x : Int32) : rv_stF (mR A s r) 0 4 4 (.int x) = some (mR A s (upd r 4 x)) := Eq.trans rfl rfl
theorem lgR7 (A : Nat → Nat → Int32) (s r : Nat → Int32) : rv_ldFI (mR A s r) 0 4 7 = some (r 7) := Eq.trans rfl rfl
theorem sgR7 (A : Nat → Nat → Int32) (s r : Nat → Int32) (x : Int32) : rv_stF (mR A s r) 0 4 7 (.int x) = some (mR A s (upd r 7 x)) := Eq.trans rfl rfl
theorem lgR11 (A : Nat → Nat → Int32) (s r : Nat → Int32) : rv_ldFI (mR A s r) 0 4 11 = some (r 11) := Eq.trans rfl rfl
theorem sgR11 (A : Nat → Nat → Int32) (s r : Nat → Int32) (x : Int32) : rv_stF (mR A s r) 0 4 11 (.int x) = some (mR A s (upd r 11 x)) := Eq.trans rfl rfl
theorem lgR12 (A : Nat → Nat → Int32) (s r : Nat → Int32) : rv_ldFI (mR A s r) 0 4 12 = some (r 12) := Eq.trans rfl rfl
theorem sgR12 (A : Nat → Nat → Int32) (s r : Nat → Int32) (x : Int32) : rv_stF (mR A s r) 0 4 12 (.int x) = some (mR A s (upd r 12 x)) := Eq.trans rfl rfl
theorem lgR13 (A : Nat → Nat → Int32) (s r : Nat → Int32) : rv_ldFI (mR A s r) 0 4 13 = some (r 13) := Eq.trans rfl rfl
theorem sgR13 (A : Nat → Nat → Int32) (s r : Nat → Int32) (x : Int32) : rv_stF (mR A s r) 0 4 13 (.int x) = some (mR A s (upd r 13 x)) := Eq.trans rfl rfl
theorem lgR14 (A : Nat → Nat → Int32) (s r : Nat → Int32) : rv_ldFI (mR A s r) 0 4 14 = some (r 14) := Eq.trans rfl rfl
theorem sgR14 (A : Nat → Nat → Int32) (s r : Nat → Int32) (x : Int32) : rv_stF (mR A s r) 0 4 14 (.int x) = some (mR A s (upd r 14 x)) := Eq.trans rfl rfl
theorem lgR15 (A : Nat → Nat → Int32) (s r : Nat → Int32) : rv_ldFI (mR A s r) 0 4 15 = some (r 15) := Eq.trans rfl rfl
theorem sgR15 (A : Nat → Nat → Int32) (s r : Nat → Int32) (x : Int32) : rv_stF (mR A s r) 0 4 15 (.int x) = some (mR A s (upd r 15 x)) := Eq.trans rfl rfl
theorem lfR_1 (A : Nat → Nat → Int32) (s r : Nat → Int32) : rv_ldFR (mR A s r) 0 4 1 = some 2 := rfl
theorem lfR_2 (A : Nat → Nat → Int32) (s r : Nat → Int32) : rv_ldFR (mR A s r) 0 4 2 = some 3 := rfl
theorem lfR_3 (A : Nat → Nat → Int32) (s r : Nat → Int32) : rv_ldFR (mR A s r) 0 4 3 = some 4 := rfl
theorem lfR_5 (A : Nat → Nat → Int32) (s r : Nat → Int32) : rv_ldFR (mR A s r) 0 4 5 = some 5 := rfl
theorem lfR_6 (A : Nat → Nat → Int32) (s r : Nat → Int32) : rv_ldFR (mR A s r) 0 4 6 = some 6 := rfl
theorem lfR_8 (A : Nat → Nat → Int32) (s r : Nat → Int32) : rv_ldFR (mR A s r) 0 4 8 = some 7 := rfl
theorem lfR_9 (A : Nat → Nat → Int32) (s r : Nat → Int32) : rv_ldFR (mR A s r) 0 4 9 = some 8 := rfl
theorem lfR_10 (A : Nat → Nat → Int32) (s r : Nat → Int32) : rv_ldFR (mR A s r) 0 4 10 = some 9 := rfl
theorem Inv_3 {h : Nat} {s : Nat → Int32} (I : Inv h s) (y : Int32) : Inv h (upd s 3 y) := by
  obtain ⟨⟨n, hn, hs, ok, sps⟩, ⟨t1, ht1, e1⟩, hw, h9⟩ := I
  exact ⟨⟨n, hn, by rw [pk_un (by omega)]; exact hs, fun b hb => (okB_congr (fun i h1 _ => pk_un (by omega))).1 (ok b hb), fun k hk => by rw [pk_un (by omega)]; exact sps k hk⟩, ⟨t1, ht1, by rw [pk_un (by omega)]; exact e1⟩, ⟨by rw [pk_un (by omega)]; exact hw.1, fun u hu => by rw [pk_un (by omega)]; exact hw.2 u hu⟩, by rw [pk_un (by omega)]; exact h9⟩
theorem she_up {A F : Nat → Nat → Int32} {p k : Nat} {x : Int32} (hp : p < 26 ∨ 34 ≤ p) (h4 : ∀ i, i < 4 → sheR A F i) : ∀ i, i < 4 → sheR A (upB F p k x) i := by
  intro i hi
  have e1 : upB F p k x (sh i) = F (sh i) := upA_n F (by unfold sh; omega) _
  have e2 : upB F p k x (sn i) = F (sn i) := upA_n F (by unfold sn; omega) _
  have := h4 i hi
  unfold sheR at this ⊢
  rw [e1, e2]
  exact this
theorem s_seed {h : Nat} {A : Nat → Nat → Int32} {r : Nat → Int32} {S F : Nat → Nat → Int32} {rb : Nat} {s : Nat → Int32} (R : Rel h A r S F s) (x : Int32) : Sim h 171 79 [.int x] A r S F rb s := by
  have b3 : rv_EV 109 [.ref 0, .int 3, .int x] (mR A s r) = some (some (.int (s 3)), mR A (upd s 3 x) r) := r_becomes A s r (j := 3) (by decide) x
  refine sim_r (s' := upd s 3 x) (x := s 3) R (Nat.le_refl _) ?_ ?_ (Inv_3 R.1 x)
  · rw [ev_X5_seed _ _ _ (obR A s r)]
    simp only [cb_eq, cb_ne, cb_lt, cb_ge, cb_gt, cb_le, cb_q, cb_qL, ri_s, rl_s, rr_s, rv_s, Option.bind_some, i10, cond_true, cond_false, b3]
  · rw [ev_X4_seed _ _ _ (obD S 0 s F rb)]
    simp only [cb_eq, cb_ne, cb_lt, cb_ge, cb_gt, cb_le, cb_q, cb_qL, ri_s, rl_s, rr_s, rv_s, Option.bind_some, i10, cond_true, cond_false, lfD0, lfD1, lfD2, lfD3, lfD4, lfD5, lfD6, lgD7, lgD8, sgD7, sgD8, cg10 S h03, ch10 S h03]
theorem s_wipe {h : Nat} {A : Nat → Nat → Int32} {r : Nat → Int32} {S F : Nat → Nat → Int32} {rb : Nat} {s : Nat → Int32} (R : Rel h A r S F s) : Sim h 173 81 [] A r S F rb s := by
  obtain ⟨h1, h2, h3, h4, h5⟩ := R
  obtain ⟨n, hn, e1, e2, h3⟩ := h3
  refine ⟨.int (r 7), A, upd r 7 0, S, upB F 0 7 0, rb, s, ?_, ?_, ⟨h1, ?_, ?_, she_up (by decide) h4, h5⟩, ⟨_, rfl⟩⟩
  · rw [ev_X5_wipe _ _ (obR A s r)]
    simp only [cb_eq, cb_ne, cb_lt, cb_ge, cb_gt, cb_le, cb_q, cb_qL, ri_s, rl_s, rr_s, rv_s, Option.bind_some, i10, cond_true, cond_false, lgR4, sgR4, lgR7, sgR7, lgR11, sgR11, lgR12, sgR12, lgR13, sgR13, lgR14, sgR14, lgR15, sgR15, lfR_1, lfR_2, lfR_3, lfR_5, lfR_6, lfR_8, lfR_9, lfR_10]
  · rw [ev_X4_wipe _ _ (obD S 0 s F rb)]
    simp only [cb_eq, cb_ne, cb_lt, cb_ge, cb_gt, cb_le, cb_q, cb_qL, ri_s, rl_s, rr_s, rv_s, Option.bind_some, i10, cond_true, cond_false, lfD0, lfD1, lfD2, lfD3, lfD4, lfD5, lfD6, lgD7, lgD8, sgD7, sgD8, e1, e2]
  · exact h2
  · exact ⟨0, by omega, rfl, rfl, fun k hk => absurd hk (by omega)⟩
theorem Inv_sp {h : Nat} {s : Nat → Int32} (I : Inv h s) {n : Nat} (hn : n ≤ 8) (hs : s 0 = nI n) {k : Nat} (hk : k < 10) {y : Int32} (hy : y = -1 ∨ ∃ b, b < n ∧ y = nI b) : Inv h (upd s (86 + k) y) := by
  obtain ⟨⟨n', hn', hs', ok, sps⟩, ⟨t1, ht1, e1⟩, hw, h9⟩ := I
  have en : n' = n := (nI_eq (by omega) (by omega)).mp (hs'.symm.trans hs)
  subst en
  refine ⟨⟨n', hn, by rw [pk_un (by omega)]; exact hs, fun b hb => (okB_congr (fun i h1 _ => pk_un (by omega))).1 (ok b hb), fun i hi => ?_⟩, ⟨t1, ht1, by rw [pk_un (by omega)]; exact e1⟩, ⟨by rw [pk_un (by omega)]; exact hw.1, fun u hu => by rw [pk_un (by omega)]; exact hw.2 u hu⟩, by rw [pk_un (by omega)]; exact h9⟩
  by_cases e : 86 + i = 86 + k
  · rw [e, pk_us]; exact hy
  · rw [pk_un e]; exact sps i hi
theorem c86_ (t : Nat) : 86 + nI t = nI (86 + t) := nI_add 86 t
theorem lt10_9 (x : Int32) : x < 10 ↔ x ≤ 9 := by
  rw [Int32.le_iff_toInt_le, Int32.lt_iff_toInt_lt, show (10 : Int32).toInt = 10 from rfl, show (9 : Int32).toInt = 9 from rfl]
  omega
theorem m1_nn {x : Int32} (h : x = -1) : ¬ (0 ≤ x) := by subst h; decide
theorem s_hold {h : Nat} {A : Nat → Nat → Int32} {r : Nat → Int32} {S F : Nat → Nat → Int32} {rb : Nat} {s : Nat → Int32} (R : Rel h A r S F s) (x y : Int32) : Sim h 194 83 [.int x, .int y] A r S F rb s := by
  obtain ⟨n, hn, hs, ok, sps⟩ := R.1.1
  by_cases g : 0 ≤ x ∧ x < 10
  · have g' : 0 ≤ x ∧ x ≤ 9 := ⟨g.1, (lt10_9 x).mp g.2⟩
    obtain ⟨t, ht, rfl⟩ := ix_rg (n := 10) (by decide) g.1 g.2
    by_cases g2 : y = -1 ∨ (0 ≤ y ∧ y < s 0)
    · have hy : y = -1 ∨ ∃ b, b < n ∧ y = nI b := by
        rcases g2 with e | ⟨a, b⟩
        · exact Or.inl e
        · exact Or.inr (ix_rg (by omega) a (by rw [← hs]; exact b))
      refine sim_r (s' := upd s (86 + t) y) (x := 1) R (Nat.le_refl _) ?_ ?_ (Inv_sp R.1 hn hs ht hy)
      · rw [ev_X5_hold _ _ _ _ (obR A s r)]
        simp only [cb_eq, cb_ne, cb_lt, cb_ge, cb_gt, cb_le, cb_q, cb_qL, ri_s, rl_s, rr_s, rv_s, Option.bind_some, i10, cond_true, cond_false, m_isIn, r_f0, r_isBather, bk_X5_hold_32, lfR, c86_, stR A s r (show 86 + t < 96 by omega)]
        refine (if1y g' _ _).trans ?_
        rcases g2 with e | e
        · rw [if_pos e]
        · rw [if_neg (fun q => m1_nn q e.1), if_neg (fun q => q e)]
      · rw [ev_X4_hold _ _ _ _ (obD S 0 s F rb)]
        simp only [cb_eq, cb_ne, cb_lt, cb_ge, cb_gt, cb_le, cb_q, cb_qL, ri_s, rl_s, rr_s, rv_s, Option.bind_some, i10, cond_true, cond_false, lfD0, lfD1, lfD2, lfD3, lfD4, lfD5, lfD6, lgD7, lgD8, sgD7, sgD8, c_isSpot, c_f0, k_hasBather S h03, bk_X4_hold_29, cf7 S h03, ct7 S h03 s F rb ht]
        refine (if1y g _ _).trans ?_
        rcases g2 with e | e
        · rw [if_pos e]
        · rw [if_neg (fun q => m1_nn q e.1), if_neg (fun q => q e)]
    · have n1 : ¬ y = -1 := fun q => g2 (Or.inl q)
      have n2 : ¬ (0 ≤ y ∧ y < s 0) := fun q => g2 (Or.inr q)
      refine sim_f R (k := 0) (x := -1000001) (by decide) ?_ ?_
      · rw [ev_X5_hold _ _ _ _ (obR A s r)]
        simp only [cb_eq, cb_ne, cb_lt, cb_ge, cb_gt, cb_le, cb_q, cb_qL, ri_s, rl_s, rr_s, rv_s, Option.bind_some, i10, cond_true, cond_false, m_isIn, r_f0, r_isBather]
        refine (if1y g' _ _).trans ?_
        rw [if_neg n1, if_pos n2]
      · rw [ev_X4_hold _ _ _ _ (obD S 0 s F rb)]
        simp only [cb_eq, cb_ne, cb_lt, cb_ge, cb_gt, cb_le, cb_q, cb_qL, ri_s, rl_s, rr_s, rv_s, Option.bind_some, i10, cond_true, cond_false, lfD0, lfD1, lfD2, lfD3, lfD4, lfD5, lfD6, lgD7, lgD8, sgD7, sgD8, c_isSpot, c_f0, k_hasBather S h03]
        refine (if1y g _ _).trans ?_
        rw [if_neg n1, if_pos n2]
  · have g' : ¬ (0 ≤ x ∧ x ≤ 9) := fun q => g ⟨q.1, (lt10_9 x).mpr q.2⟩
    refine sim_f R (k := 0) (x := -1000001) (by decide) ?_ ?_
    · rw [ev_X5_hold _ _ _ _ (obR A s r)]
      simp only [cb_eq, cb_ne, cb_lt, cb_ge, cb_gt, cb_le, cb_q, cb_qL, ri_s, rl_s, rr_s, rv_s, Option.bind_some, i10, cond_true, cond_false, m_isIn, r_f0]
      exact if1n g' _ _
    · rw [ev_X4_hold _ _ _ _ (obD S 0 s F rb)]
      simp only [cb_eq, cb_ne, cb_lt, cb_ge, cb_gt, cb_le, cb_q, cb_qL, ri_s, rl_s, rr_s, rv_s, Option.bind_some, i10, cond_true, cond_false, lfD0, lfD1, lfD2, lfD3, lfD4, lfD5, lfD6, lgD7, lgD8, sgD7, sgD8, c_isSpot, c_f0]
      exact if1n g _ _
/-! images -/
theorem k_take01 (S : Nat → Nat → Int32) (s : Nat → Int32) (F : Nat → Nat → Int32) (rb : Nat) : rv_EV 9 [.ref (sp 1), .ref (sp 0)] (cR S 0 s F rb) = some (none, cR (upA S 1 s) 0 s F rb) := by
  unfold cR
  rw [k_take (upA S 0 s) (i := 0) (j := 1) (by decide) (by decide) (by decide) F rb]
  unfold cR
  rw [upA_s, upA_comm S (by decide)]
theorem k_take10 (S : Nat → Nat → Int32) (s : Nat → Int32) (F : Nat → Nat → Int32) (rb : Nat) : rv_EV 9 [.ref (sp 0), .ref (sp 1)] (cR S 0 s F rb) = some (none, cR S 0 (S 1) F rb) := by
  unfold cR
  rw [k_take (upA S 0 s) (i := 1) (j := 0) (by decide) (by decide) (by decide) F rb]
  unfold cR
  rw [upA_upA, upA_n _ (by decide)]
theorem s_image {h : Nat} {A : Nat → Nat → Int32} {r : Nat → Int32} {S F : Nat → Nat → Int32} {rb : Nat} {s : Nat → Int32} (R : Rel h A r S F s) : Sim h 204 90 [] A r S F rb s := by
  obtain ⟨h1, h2, h3, h4, h5⟩ := R
  refine ⟨.int 1, upA A 2 s, upd r 4 1, upA S 1 s, upB F 0 8 1, rb, s, ?_, ?_, ⟨h1, ?_, h3, she_up (A := upA A 2 s) (by decide) h4, h5⟩, ⟨_, rfl⟩⟩
  · rw [ev_X5_image _ _ (obR A s r)]
    simp only [cb_eq, cb_ne, cb_lt, cb_ge, cb_gt, cb_le, cb_q, cb_qL, ri_s, rl_s, rr_s, rv_s, Option.bind_some, i10, cond_true, cond_false, lfR, lgR4, sgR4, lgR7, sgR7, lgR11, sgR11, lgR12, sgR12, lgR13, sgR13, lgR14, sgR14, lgR15, sgR15, lfR_1, lfR_2, lfR_3, lfR_5, lfR_6, lfR_8, lfR_9, lfR_10, r_cp12]
  · rw [ev_X4_image _ _ (obD S 0 s F rb)]
    simp only [cb_eq, cb_ne, cb_lt, cb_ge, cb_gt, cb_le, cb_q, cb_qL, ri_s, rl_s, rr_s, rv_s, Option.bind_some, i10, cond_true, cond_false, lfD0, lfD1, lfD2, lfD3, lfD4, lfD5, lfD6, lgD7, lgD8, sgD7, sgD8, k_take01]
  · exact Or.inr ⟨rfl, rfl, fun i _ => rfl, h1⟩
theorem s_undo {h : Nat} {A : Nat → Nat → Int32} {r : Nat → Int32} {S F : Nat → Nat → Int32} {rb : Nat} {s : Nat → Int32} (R : Rel h A r S F s) : Sim h 205 91 [] A r S F rb s := by
  obtain ⟨h1, h2, h3, h4, h5⟩ := id R
  rcases h2 with ⟨a, b⟩ | ⟨a, b, c, d⟩
  · refine sim_f R (k := 3) (x := -1000004) (by decide) ?_ ?_
    · rw [ev_X5_undo _ _ (obR A s r)]
      simp only [cb_eq, cb_ne, cb_lt, cb_ge, cb_gt, cb_le, cb_q, cb_qL, ri_s, rl_s, rr_s, rv_s, Option.bind_some, i10, cond_true, cond_false, lfR, lgR4, sgR4, lgR7, sgR7, lgR11, sgR11, lgR12, sgR12, lgR13, sgR13, lgR14, sgR14, lgR15, sgR15, lfR_1, lfR_2, lfR_3, lfR_5, lfR_6, lfR_8, lfR_9, lfR_10, a, r_f3, if_true]
    · rw [ev_X4_undo _ _ (obD S 0 s F rb)]
      simp only [cb_eq, cb_ne, cb_lt, cb_ge, cb_gt, cb_le, cb_q, cb_qL, ri_s, rl_s, rr_s, rv_s, Option.bind_some, i10, cond_true, cond_false, lfD0, lfD1, lfD2, lfD3, lfD4, lfD5, lfD6, lgD7, lgD8, sgD7, sgD8, b, c_f3, if_true]
  · refine sim_r (s' := S 1) (x := S 1 1) R (Nat.le_refl _) ?_ ?_ d
    · rw [ev_X5_undo _ _ (obR A s r)]
      simp only [cb_eq, cb_ne, cb_lt, cb_ge, cb_gt, cb_le, cb_q, cb_qL, ri_s, rl_s, rr_s, rv_s, Option.bind_some, i10, cond_true, cond_false, lfR, lgR4, sgR4, lgR7, sgR7, lgR11, sgR11, lgR12, sgR12, lgR13, sgR13, lgR14, sgR14, lgR15, sgR15, lfR_1, lfR_2, lfR_3, lfR_5, lfR_6, lfR_8, lfR_9, lfR_10, a, r_cp21, ldR1, show ¬ (1 : Int32) = 0 from by decide, if_false]
      rw [mR_congr A r c, c 1 (by decide)]
    · rw [ev_X4_undo _ _ (obD S 0 s F rb)]
      simp only [cb_eq, cb_ne, cb_lt, cb_ge, cb_gt, cb_le, cb_q, cb_qL, ri_s, rl_s, rr_s, rv_s, Option.bind_some, i10, cond_true, cond_false, lfD0, lfD1, lfD2, lfD3, lfD4, lfD5, lfD6, lgD7, lgD8, sgD7, sgD8, b, k_take10, cg9 S h03, show ¬ (1 : Int32) = 0 from by decide, if_false]
theorem s_tear {h : Nat} {A : Nat → Nat → Int32} {r : Nat → Int32} {S F : Nat → Nat → Int32} {rb : Nat} {s : Nat → Int32} (R : Rel h A r S F s) : Sim h 206 92 [] A r S F rb s := by
  obtain ⟨h1, h2, h3, h4, h5⟩ := id R
  refine ⟨.int (r 4), A, upd r 4 0, S, upB F 0 8 0, rb, s, ?_, ?_, ⟨h1, Or.inl ⟨rfl, rfl⟩, h3, she_up (by decide) h4, h5⟩, ⟨_, rfl⟩⟩
  · rw [ev_X5_tear _ _ (obR A s r)]
    rcases h2 with ⟨a, b⟩ | ⟨a, b, c, d⟩
    · simp only [cb_eq, cb_ne, cb_lt, cb_ge, cb_gt, cb_le, cb_q, cb_qL, ri_s, rl_s, rr_s, rv_s, Option.bind_some, i10, cond_true, cond_false, lgR4, sgR4, lgR7, sgR7, lgR11, sgR11, lgR12, sgR12, lgR13, sgR13, lgR14, sgR14, lgR15, sgR15, lfR_1, lfR_2, lfR_3, lfR_5, lfR_6, lfR_8, lfR_9, lfR_10, a, if_true]
    · simp only [cb_eq, cb_ne, cb_lt, cb_ge, cb_gt, cb_le, cb_q, cb_qL, ri_s, rl_s, rr_s, rv_s, Option.bind_some, i10, cond_true, cond_false, lgR4, sgR4, lgR7, sgR7, lgR11, sgR11, lgR12, sgR12, lgR13, sgR13, lgR14, sgR14, lgR15, sgR15, lfR_1, lfR_2, lfR_3, lfR_5, lfR_6, lfR_8, lfR_9, lfR_10, a, show ¬ (1 : Int32) = 0 from by decide, if_false]
  · rw [ev_X4_tear _ _ (obD S 0 s F rb)]
    rcases h2 with ⟨a, b⟩ | ⟨a, b, c, d⟩
    · simp only [cb_eq, cb_ne, cb_lt, cb_ge, cb_gt, cb_le, cb_q, cb_qL, ri_s, rl_s, rr_s, rv_s, Option.bind_some, i10, cond_true, cond_false, lfD0, lfD1, lfD2, lfD3, lfD4, lfD5, lfD6, lgD7, lgD8, sgD7, sgD8, a, b, if_true]
    · simp only [cb_eq, cb_ne, cb_lt, cb_ge, cb_gt, cb_le, cb_q, cb_qL, ri_s, rl_s, rr_s, rv_s, Option.bind_some, i10, cond_true, cond_false, lfD0, lfD1, lfD2, lfD3, lfD4, lfD5, lfD6, lgD7, lgD8, sgD7, sgD8, a, b, show ¬ (1 : Int32) = 0 from by decide, if_false]
/-! status -/
theorem ldR5 (A : Nat → Nat → Int32) (s r : Nat → Int32) {j : Nat} (h : j < 8) : rv_ldI (mR A s r) 5 (nI j) = some (A 5 j) := ldM5 (upA A 1 s) r h
theorem ldD37 (S : Nat → Nat → Int32) (j : Nat) (s : Nat → Int32) (F : Nat → Nat → Int32) (rb : Nat) {k : Nat} (h : k < 7) : rv_ldI (cR S j s F rb) 37 (nI k) = some (F 37 k) := ldF _ F rb h
theorem lnD37 (S : Nat → Nat → Int32) (j : Nat) (s : Nat → Int32) (F : Nat → Nat → Int32) (rb : Nat) : rv_len (cR S j s F rb) 37 = some 7 := rfl
theorem s_status {h : Nat} {A : Nat → Nat → Int32} {r : Nat → Int32} {S F : Nat → Nat → Int32} {rb : Nat} {s : Nat → Int32} (R : Rel h A r S F s) (x : Int32) : Sim h 208 94 [.int x] A r S F rb s := by
  obtain ⟨h1, h2, h3, h4, ⟨f1, f2⟩⟩ := id R
  by_cases g : -1 ≤ x ∧ x ≤ 6
  · have hx : x = -1 ∨ ∃ k, k < 7 ∧ x = nI k := by
      by_cases e : x = -1
      · exact Or.inl e
      · right
        have h0 : 0 ≤ x := by
          have := Int32.le_iff_toInt_le.mp g.1
          rw [show (-1 : Int32).toInt = -1 from rfl] at this
          have n1 : ¬ x.toInt = -1 := fun q => e (Int32.toInt_inj.mp (q.trans rfl))
          rw [Int32.le_iff_toInt_le, show (0 : Int32).toInt = 0 from rfl]
          omega
        obtain ⟨k, hk, e⟩ := ix_le (n := 6) (by decide) h0 g.2
        exact ⟨k, by omega, e⟩
    rcases hx with rfl | ⟨k, hk, rfl⟩
    · refine sim_r (s' := s) (x := A 5 0) R (Nat.le_refl _) ?_ ?_ R.1
      · rw [ev_X5_status _ _ _ (obR A s r)]
        simp only [cb_eq, cb_ne, cb_lt, cb_ge, cb_gt, cb_le, cb_q, cb_qL, ri_s, rl_s, rr_s, rv_s, Option.bind_some, i10, cond_true, cond_false, m_isIn, r_f0, lgR4, sgR4, lgR7, sgR7, lgR11, sgR11, lgR12, sgR12, lgR13, sgR13, lgR14, sgR14, lgR15, sgR15, lfR_1, lfR_2, lfR_3, lfR_5, lfR_6, lfR_8, lfR_9, lfR_10, show (-1 : Int32) + 1 = nI 0 from rfl, ldR5 A s r (show 0 < 8 by decide)]
        exact if1y g _ _
      · rw [ev_X4_status _ _ _ (obD S 0 s F rb)]
        have st : ∀ (c : Nat) (v : Int32), c < 7 → rv_GO rc_X4_status 42 [none, none, some (.int v), some (.ref 37), some (.int 7), some (.int (nI c)), none] [] (cR S 0 s F rb) = rv_GO rc_X4_status 42 [none, none, some (.int (v + F 37 c)), some (.ref 37), some (.int 7), some (.int (nI (c + 1))), none] [] (cR S 0 s F rb) := by
          intro c v hc
          rw [bk_X4_status_42]
          simp only [cb_eq, cb_ne, cb_lt, cb_ge, cb_gt, cb_le, cb_q, cb_qL, ri_s, rl_s, rr_s, rv_s, Option.bind_some, i10, cond_true, cond_false, ldD37 S 0 s F rb hc, nI_1, show ¬ (7 : Int32) ≤ nI c from nI_ge (a := c) (b := 7) hc (by decide), if_false]
        simp only [cb_eq, cb_ne, cb_lt, cb_ge, cb_gt, cb_le, cb_q, cb_qL, ri_s, rl_s, rr_s, rv_s, Option.bind_some, i10, cond_true, cond_false, lfD0, lfD1, lfD2, lfD3, lfD4, lfD5, lfD6, lgD7, lgD8, sgD7, sgD8, lnD37, show ¬ (-1 : Int32) < -1 from by decide, show (-1 : Int32) < 7 from by decide, show (-1 : Int32) < 0 from by decide, if_true, if_false]
        rw [show some (Value.int (0 : Int32)) = some (.int (nI 0)) from rfl, st 0 _ (by decide), st 1 _ (by decide), st 2 _ (by decide), st 3 _ (by decide), st 4 _ (by decide), st 5 _ (by decide), st 6 _ (by decide), bk_X4_status_42]
        simp only [cb_eq, cb_ne, cb_lt, cb_ge, cb_gt, cb_le, cb_q, cb_qL, ri_s, rl_s, rr_s, rv_s, Option.bind_some, i10, cond_true, cond_false, show (7 : Int32) ≤ nI (6 + 1) from by decide, if_true]
        rw [f2, nI_0]
    · refine sim_r (s' := s) (x := F 37 k) R (Nat.le_refl _) ?_ ?_ R.1
      · rw [ev_X5_status _ _ _ (obR A s r)]
        simp only [cb_eq, cb_ne, cb_lt, cb_ge, cb_gt, cb_le, cb_q, cb_qL, ri_s, rl_s, rr_s, rv_s, Option.bind_some, i10, cond_true, cond_false, m_isIn, r_f0, lgR4, sgR4, lgR7, sgR7, lgR11, sgR11, lgR12, sgR12, lgR13, sgR13, lgR14, sgR14, lgR15, sgR15, lfR_1, lfR_2, lfR_3, lfR_5, lfR_6, lfR_8, lfR_9, lfR_10, nI_1, ldR5 A s r (show k + 1 < 8 by omega), f1 k hk]
        exact if1y g _ _
      · rw [ev_X4_status _ _ _ (obD S 0 s F rb)]
        simp only [cb_eq, cb_ne, cb_lt, cb_ge, cb_gt, cb_le, cb_q, cb_qL, ri_s, rl_s, rr_s, rv_s, Option.bind_some, i10, cond_true, cond_false, lfD0, lfD1, lfD2, lfD3, lfD4, lfD5, lfD6, lgD7, lgD8, sgD7, sgD8, ldD37 S 0 s F rb hk, show ¬ nI k < -1 from Int32.not_lt.mpr g.1, show nI k < 7 from nI_lt (a := k) (b := 7) hk (by decide), show ¬ nI k < 0 from Int32.not_lt.mpr (nI_pos' (by omega)), if_true, if_false]
  · have g' : x < -1 ∨ (¬ x < -1 ∧ ¬ x < 7) := by
      by_cases e : x < -1
      · exact Or.inl e
      · refine Or.inr ⟨e, fun q => g ⟨Int32.not_lt.mp e, ?_⟩⟩
        rw [Int32.lt_iff_toInt_lt, show (7 : Int32).toInt = 7 from rfl] at q
        rw [Int32.le_iff_toInt_le, show (6 : Int32).toInt = 6 from rfl]
        omega
    refine sim_f R (k := 0) (x := -1000001) (by decide) ?_ ?_
    · rw [ev_X5_status _ _ _ (obR A s r)]
      simp only [cb_eq, cb_ne, cb_lt, cb_ge, cb_gt, cb_le, cb_q, cb_qL, ri_s, rl_s, rr_s, rv_s, Option.bind_some, i10, cond_true, cond_false, m_isIn, r_f0]
      exact if1n g _ _
    · rw [ev_X4_status _ _ _ (obD S 0 s F rb)]
      simp only [cb_eq, cb_ne, cb_lt, cb_ge, cb_gt, cb_le, cb_q, cb_qL, ri_s, rl_s, rr_s, rv_s, Option.bind_some, i10, cond_true, cond_false, lfD0, lfD1, lfD2, lfD3, lfD4, lfD5, lfD6, lgD7, lgD8, sgD7, sgD8, c_f0]
      rcases g' with e | ⟨e1, e2⟩
      · rw [if_pos e]
      · rw [if_neg e1, if_neg e2]
/-! left -/
def lefS (x : Int32) : Nat → Int32
  | 0 => x
  | n + 1 => lefS x n * 3 / 4
theorem m_leftOf (x : Int32) {n : Nat} (hn : n < 2 ^ 31) (w : rv_W) : rv_EV 152 [.int x, .int (nI n)] w = some (some (.int (lefS x n)), w) := by
  have st : ∀ k, k ≤ n → rv_GO rc_X5_leftOf 4 [none, some (.int (nI n)), some (.int x), some (.int 0)] [] w = rv_GO rc_X5_leftOf 4 [none, some (.int (nI n)), some (.int (lefS x k)), some (.int (nI k))] [] w := by
    intro k
    induction k with
    | zero => intro _; rfl
    | succ k ih =>
      intro hk
      rw [ih (by omega), bk_X5_leftOf_4]
      simp only [cb_eq, cb_ne, cb_lt, cb_ge, cb_gt, cb_le, cb_q, cb_qL, ri_s, rl_s, rr_s, rv_s, Option.bind_some, i10, cond_true, cond_false, nI_ge (show k < n by omega) hn, if_false, d4_0, nI_1]
      rfl
  rw [ev_X5_leftOf, st n (Nat.le_refl n), bk_X5_leftOf_4]
  simp only [cb_eq, cb_ne, cb_lt, cb_ge, cb_gt, cb_le, cb_q, cb_qL, ri_s, rl_s, rr_s, rv_s, Option.bind_some, i10, cond_true, cond_false, Int32.le_refl, if_true]
theorem c_left (x : Int32) {n : Nat} (hn : n < 2 ^ 31) (w : rv_W) : rv_GO rc_X4_left 30 [none, none, some (.int (nI n)), some (.int x), some (.int 0)] [] w = some (some (.int (lefS x n)), w) := by
  have st : ∀ k, k ≤ n → rv_GO rc_X4_left 30 [none, none, some (.int (nI n)), some (.int x), some (.int 0)] [] w = rv_GO rc_X4_left 30 [none, none, some (.int (nI n)), some (.int (lefS x k)), some (.int (nI k))] [] w := by
    intro k
    induction k with
    | zero => intro _; rfl
    | succ k ih =>
      intro hk
      rw [ih (by omega), bk_X4_left_30]
      simp only [cb_eq, cb_ne, cb_lt, cb_ge, cb_gt, cb_le, cb_q, cb_qL, ri_s, rl_s, rr_s, rv_s, Option.bind_some, i10, cond_true, cond_false, nI_ge (show k < n by omega) hn, if_false, k_step, nI_1]
      rfl
  rw [st n (Nat.le_refl n), bk_X4_left_30]
  simp only [cb_eq, cb_ne, cb_lt, cb_ge, cb_gt, cb_le, cb_q, cb_qL, ri_s, rl_s, rr_s, rv_s, Option.bind_some, i10, cond_true, cond_false, Int32.le_refl, if_true]
theorem s_left {h : Nat} {A : Nat → Nat → Int32} {r : Nat → Int32} {S F : Nat → Nat → Int32} {rb : Nat} {s : Nat → Int32} (R : Rel h A r S F s) (x y : Int32) : Sim h 153 66 [.int x, .int y] A r S F rb s := by
  by_cases g : (0 ≤ x ∧ x ≤ 9999) ∧ (0 ≤ y ∧ y ≤ 9)
  · obtain ⟨n, hn, rfl⟩ := ix_le (n := 9) (by decide) g.2.1 g.2.2
    refine sim_r (s' := s) (x := lefS x n) R (Nat.le_refl _) ?_ ?_ R.1
    · rw [ev_X5_left _ _ _ _ (obR A s r)]
      simp only [cb_eq, cb_ne, cb_lt, cb_ge, cb_gt, cb_le, cb_q, cb_qL, ri_s, rl_s, rr_s, rv_s, Option.bind_some, i10, cond_true, cond_false, m_isIn, r_f0, m_leftOf x (show n < 2 ^ 31 by omega)]
      exact if2y g _ _
    · rw [ev_X4_left _ _ _ _ (obD S 0 s F rb)]
      simp only [cb_eq, cb_ne, cb_lt, cb_ge, cb_gt, cb_le, cb_q, cb_qL, ri_s, rl_s, rr_s, rv_s, Option.bind_some, i10, cond_true, cond_false, lfD0, lfD1, lfD2, lfD3, lfD4, lfD5, lfD6, lgD7, lgD8, sgD7, sgD8, c_isWithin, c_f0, c_left x (show n < 2 ^ 31 by omega)]
      exact if2y g _ _
  · refine sim_f R (k := 0) (x := -1000001) (by decide) ?_ ?_
    · rw [ev_X5_left _ _ _ _ (obR A s r)]
      simp only [cb_eq, cb_ne, cb_lt, cb_ge, cb_gt, cb_le, cb_q, cb_qL, ri_s, rl_s, rr_s, rv_s, Option.bind_some, i10, cond_true, cond_false, m_isIn, r_f0]
      exact if2n g _ _
    · rw [ev_X4_left _ _ _ _ (obD S 0 s F rb)]
      simp only [cb_eq, cb_ne, cb_lt, cb_ge, cb_gt, cb_le, cb_q, cb_qL, ri_s, rl_s, rr_s, rv_s, Option.bind_some, i10, cond_true, cond_false, lfD0, lfD1, lfD2, lfD3, lfD4, lfD5, lfD6, lgD7, lgD8, sgD7, sgD8, c_isWithin, c_f0]
      exact if2n g _ _
