/-! THE CALLS, one by one: tubs, bathers -/
theorem lfD0 (S : Nat → Nat → Int32) (j : Nat) (s : Nat → Int32) (F : Nat → Nat → Int32) (rb : Nat) : rv_ldFR (cR S j s F rb) 0 3 0 = some (sp 0) := rfl
theorem lfD1 (S : Nat → Nat → Int32) (j : Nat) (s : Nat → Int32) (F : Nat → Nat → Int32) (rb : Nat) : rv_ldFR (cR S j s F rb) 0 3 1 = some (sp 1) := rfl
theorem lfD2 (S : Nat → Nat → Int32) (j : Nat) (s : Nat → Int32) (F : Nat → Nat → Int32) (rb : Nat) : rv_ldFR (cR S j s F rb) 0 3 2 = some (sp 2) := rfl
theorem lfD3 (S : Nat → Nat → Int32) (j : Nat) (s : Nat → Int32) (F : Nat → Nat → Int32) (rb : Nat) : rv_ldFR (cR S j s F rb) 0 3 3 = some 25 := rfl
theorem lfD4 (S : Nat → Nat → Int32) (j : Nat) (s : Nat → Int32) (F : Nat → Nat → Int32) (rb : Nat) : rv_ldFR (cR S j s F rb) 0 3 4 = some 34 := rfl
theorem lfD5 (S : Nat → Nat → Int32) (j : Nat) (s : Nat → Int32) (F : Nat → Nat → Int32) (rb : Nat) : rv_ldFR (cR S j s F rb) 0 3 5 = some 35 := rfl
theorem lfD6 (S : Nat → Nat → Int32) (j : Nat) (s : Nat → Int32) (F : Nat → Nat → Int32) (rb : Nat) : rv_ldFR (cR S j s F rb) 0 3 6 = some 37 := rfl
theorem lgD7 (S : Nat → Nat → Int32) (j : Nat) (s : Nat → Int32) (F : Nat → Nat → Int32) (rb : Nat) : rv_ldFI (cR S j s F rb) 0 3 7 = some (F 0 7) := rfl
theorem lgD8 (S : Nat → Nat → Int32) (j : Nat) (s : Nat → Int32) (F : Nat → Nat → Int32) (rb : Nat) : rv_ldFI (cR S j s F rb) 0 3 8 = some (F 0 8) := rfl
theorem sgD7 (S : Nat → Nat → Int32) (j : Nat) (s : Nat → Int32) (F : Nat → Nat → Int32) (rb : Nat) (x : Int32) : rv_stF (cR S j s F rb) 0 3 7 (.int x) = some (cR S j s (upB F 0 7 x) rb) := rfl
theorem sgD8 (S : Nat → Nat → Int32) (j : Nat) (s : Nat → Int32) (F : Nat → Nat → Int32) (rb : Nat) (x : Int32) : rv_stF (cR S j s F rb) 0 3 8 (.int x) = some (cR S j s (upB F 0 8 x) rb) := rfl
theorem obD (S : Nat → Nat → Int32) (j : Nat) (s : Nat → Int32) (F : Nat → Nat → Int32) (rb : Nat) : (rv_obj (cR S j s F rb) 0 3).isSome = true := rfl
theorem h03 : 0 < 3 := by decide
theorem h13 : 1 < 3 := by decide
theorem h23 : 2 < 3 := by decide
theorem if1y {α : Type} {G : Prop} [Decidable G] (g : G) (f t : α) : (if ¬ G then f else t) = t := by simp [g]
theorem if1n {α : Type} {G : Prop} [Decidable G] (g : ¬ G) (f t : α) : (if ¬ G then f else t) = f := by simp [g]
theorem if2y {α : Type} {G1 G2 : Prop} [Decidable G1] [Decidable G2] (g : G1 ∧ G2) (f t : α) : (if ¬ G1 then f else if ¬ G2 then f else t) = t := by simp [g.1, g.2]
theorem if2n {α : Type} {G1 G2 : Prop} [Decidable G1] [Decidable G2] (g : ¬ (G1 ∧ G2)) (f t : α) : (if ¬ G1 then f else if ¬ G2 then f else t) = f := by
  by_cases g1 : G1
  · have g2 : ¬ G2 := fun q => g ⟨g1, q⟩
    simp [g1, g2]
  · simp [g1]
theorem if3y {α : Type} {G1 G2 G3 : Prop} [Decidable G1] [Decidable G2] [Decidable G3] (g : G1 ∧ G2 ∧ G3) (f t : α) : (if ¬ G1 then f else if ¬ G2 then f else if ¬ G3 then f else t) = t := by simp [g.1, g.2.1, g.2.2]
theorem if3n {α : Type} {G1 G2 G3 : Prop} [Decidable G1] [Decidable G2] [Decidable G3] (g : ¬ (G1 ∧ G2 ∧ G3)) (f t : α) : (if ¬ G1 then f else if ¬ G2 then f else if ¬ G3 then f else t) = f := by
  by_cases g1 : G1
  · rw [if_neg (fun q => q g1)]
    exact if2n (fun q => g ⟨g1, q⟩) f t
  · rw [if_pos g1]
theorem ix_le {x : Int32} {n : Nat} (hn : n < 2 ^ 30) (h0 : 0 ≤ x) (h1 : x ≤ nI n) : ∃ t : Nat, t ≤ n ∧ x = nI t := by
  have h2 : x < nI (n + 1) := by
    rw [Int32.lt_iff_toInt_lt]
    have := Int32.le_iff_toInt_le.mp h1
    rw [nI_toInt (by omega)] at this ⊢
    omega
  obtain ⟨t, ht, e⟩ := ix_rg (n := n + 1) (by omega) h0 h2
  exact ⟨t, by omega, e⟩
theorem r_becomes (A : Nat → Nat → Int32) (s r : Nat → Int32) {j : Nat} (h : j < 96) (v : Int32) : rv_EV 109 [.ref 0, .int (nI j), .int v] (mR A s r) = some (some (.int (s j)), mR A (upd s j v) r) := by
  rw [ev_X5_becomes _ _ _ _ (obR A s r)]
  simp only [cb_eq, cb_ne, cb_lt, cb_ge, cb_gt, cb_le, cb_q, cb_qL, ri_s, rl_s, rr_s, rv_s, Option.bind_some, i10, cond_true, cond_false, lfR, ldR A s r h, stR A s r h]
/-- the row changes at a place that is neither bathers' nor hours' -/
theorem Inv_w {h : Nat} {s : Nat → Int32} (I : Inv h s) {t : Nat} (ht : t < 10) {y : Int32} (hy : 0 ≤ y) : Inv h (upd s (4 + t) y) := by
  obtain ⟨⟨n, hn, hs, ok, sps⟩, ⟨t1, ht1, e1⟩, hw, h9⟩ := I
  refine ⟨⟨n, hn, by rw [pk_un (by omega)]; exact hs, fun b hb => (okB_congr (fun i h1 _ => pk_un (by omega))).1 (ok b hb), fun k hk => ?_⟩, ⟨t1, ht1, by rw [pk_un (by omega)]; exact e1⟩, ⟨by rw [pk_un (by omega)]; exact hw.1, fun u hu => ?_⟩, by rw [pk_un (by omega)]; exact h9⟩
  · rw [pk_un (by omega)]; exact sps k hk
  · by_cases e : 4 + u = 4 + t
    · rw [e, pk_us]; exact hy
    · rw [pk_un e]; exact hw.2 u hu
theorem Inv_c {h : Nat} {s : Nat → Int32} (I : Inv h s) {i : Nat} (hi : 14 ≤ i ∧ i < 54) (y : Int32) : Inv h (upd s i y) := by
  obtain ⟨⟨n, hn, hs, ok, sps⟩, ⟨t1, ht1, e1⟩, hw, h9⟩ := I
  refine ⟨⟨n, hn, by rw [pk_un (by omega)]; exact hs, fun b hb => (okB_congr (fun i h1 _ => pk_un (by omega))).1 (ok b hb), fun k hk => by rw [pk_un (by omega)]; exact sps k hk⟩, ⟨t1, ht1, by rw [pk_un (by omega)]; exact e1⟩, ⟨by rw [pk_un (by omega)]; exact hw.1, fun u hu => by rw [pk_un (by omega)]; exact hw.2 u hu⟩, by rw [pk_un (by omega)]; exact h9⟩
theorem s_warm {h : Nat} {A : Nat → Nat → Int32} {r : Nat → Int32} {S F : Nat → Nat → Int32} {rb : Nat} {s : Nat → Int32} (R : Rel h A r S F s) (x y : Int32) : Sim h 117 51 [.int x, .int y] A r S F rb s := by
  by_cases g : (0 ≤ x ∧ x < 10) ∧ (0 ≤ y ∧ y ≤ 99)
  · obtain ⟨t, ht, rfl⟩ := ix_rg (n := 10) (by decide) g.1.1 g.1.2
    refine sim_r (s' := upd s (4 + t) y) (x := s (4 + t)) R (Nat.le_refl _) ?_ ?_ (Inv_w R.1 ht g.2.1)
    · rw [ev_X5_warm _ _ _ _ (obR A s r)]
      simp only [cb_eq, cb_ne, cb_lt, cb_ge, cb_gt, cb_le, cb_q, cb_qL, ri_s, rl_s, rr_s, rv_s, Option.bind_some, i10, cond_true, cond_false, m_isTub, m_isIn, r_f0, c4_, r_becomes A s r (show 4 + t < 96 by omega)]
      exact if2y g _ _
    · rw [ev_X4_warm _ _ _ _ (obD S 0 s F rb)]
      simp only [cb_eq, cb_ne, cb_lt, cb_ge, cb_gt, cb_le, cb_q, cb_qL, ri_s, rl_s, rr_s, rv_s, Option.bind_some, i10, cond_true, cond_false, lfD0, lfD1, lfD2, lfD3, lfD4, lfD5, lfD6, lgD7, lgD8, sgD7, sgD8, c_isTub, c_isWithin, c_f0, cf1 S h03, cl1 S h03 s F rb ht, ct1 S h03 s F rb ht]
      exact if2y g _ _
  · refine sim_f R (k := 0) (x := -1000001) (by decide) ?_ ?_
    · rw [ev_X5_warm _ _ _ _ (obR A s r)]
      simp only [cb_eq, cb_ne, cb_lt, cb_ge, cb_gt, cb_le, cb_q, cb_qL, ri_s, rl_s, rr_s, rv_s, Option.bind_some, i10, cond_true, cond_false, m_isTub, m_isIn, r_f0]
      exact if2n g _ _
    · rw [ev_X4_warm _ _ _ _ (obD S 0 s F rb)]
      simp only [cb_eq, cb_ne, cb_lt, cb_ge, cb_gt, cb_le, cb_q, cb_qL, ri_s, rl_s, rr_s, rv_s, Option.bind_some, i10, cond_true, cond_false, lfD0, lfD1, lfD2, lfD3, lfD4, lfD5, lfD6, lgD7, lgD8, sgD7, sgD8, c_isTub, c_isWithin, c_f0]
      exact if2n g _ _
theorem s_scent {h : Nat} {A : Nat → Nat → Int32} {r : Nat → Int32} {S F : Nat → Nat → Int32} {rb : Nat} {s : Nat → Int32} (R : Rel h A r S F s) (x c y : Int32) : Sim h 119 52 [.int x, .int c, .int y] A r S F rb s := by
  by_cases g : (0 ≤ x ∧ x < 10) ∧ (0 ≤ c ∧ c < 4) ∧ (0 ≤ y ∧ y ≤ 9999)
  · obtain ⟨t, ht, rfl⟩ := ix_rg (n := 10) (by decide) g.1.1 g.1.2
    obtain ⟨c, hc, rfl⟩ := ix_rg (n := 4) (by decide) g.2.1.1 g.2.1.2
    refine sim_r (s' := upd s (14 + 4 * t + c) y) (x := s (14 + 4 * t + c)) R (Nat.le_refl _) ?_ ?_ (Inv_c R.1 (by omega) y)
    · rw [ev_X5_scent _ _ _ _ _ (obR A s r)]
      simp only [cb_eq, cb_ne, cb_lt, cb_ge, cb_gt, cb_le, cb_q, cb_qL, ri_s, rl_s, rr_s, rv_s, Option.bind_some, i10, cond_true, cond_false, m_isTub, m_isScent, m_isIn, r_f0, m_placeOf, r_becomes A s r (show 14 + 4 * t + c < 96 by omega)]
      exact if3y g _ _
    · rw [ev_X4_scent _ _ _ _ _ (obD S 0 s F rb)]
      simp only [cb_eq, cb_ne, cb_lt, cb_ge, cb_gt, cb_le, cb_q, cb_qL, ri_s, rl_s, rr_s, rv_s, Option.bind_some, i10, cond_true, cond_false, lfD0, lfD1, lfD2, lfD3, lfD4, lfD5, lfD6, lgD7, lgD8, sgD7, sgD8, c_isTub, c_isScent, c_isWithin, c_f0, k_scentIn S h03 s F rb ht hc, k_setScent S h03 s F rb ht hc]
      exact if3y g _ _
  · refine sim_f R (k := 0) (x := -1000001) (by decide) ?_ ?_
    · rw [ev_X5_scent _ _ _ _ _ (obR A s r)]
      simp only [cb_eq, cb_ne, cb_lt, cb_ge, cb_gt, cb_le, cb_q, cb_qL, ri_s, rl_s, rr_s, rv_s, Option.bind_some, i10, cond_true, cond_false, m_isTub, m_isScent, m_isIn, r_f0]
      exact if3n g _ _
    · rw [ev_X4_scent _ _ _ _ _ (obD S 0 s F rb)]
      simp only [cb_eq, cb_ne, cb_lt, cb_ge, cb_gt, cb_le, cb_q, cb_qL, ri_s, rl_s, rr_s, rv_s, Option.bind_some, i10, cond_true, cond_false, lfD0, lfD1, lfD2, lfD3, lfD4, lfD5, lfD6, lgD7, lgD8, sgD7, sgD8, c_isTub, c_isScent, c_isWithin, c_f0]
      exact if3n g _ _
/-! who is in a tub -/
def inS (s : Nat → Int32) (t : Int32) : Nat → Int32
  | 0 => 0
  | b + 1 => inS s t b ||| (if s (54 + 4 * b + 1) = t then 1 <<< (nI b &&& 31) else 0)
theorem r_there (A : Nat → Nat → Int32) (s r : Nat → Int32) (t : Int32) {n : Nat} (hn : n ≤ 8) (hs : s 0 = nI n) : rv_EV 121 [.ref 0, .int t] (mR A s r) = some (some (.int (inS s t n)), mR A s r) := by
  have st : ∀ b, b ≤ n → rv_GO rc_X5_there 4 [some (.ref 0), some (.int t), some (.int 0), some (.int 0)] [] (mR A s r) = rv_GO rc_X5_there 4 [some (.ref 0), some (.int t), some (.int (inS s t b)), some (.int (nI b))] [] (mR A s r) := by
    intro b
    induction b with
    | zero => intro _; rfl
    | succ b ih =>
      intro hb
      rw [ih (by omega), bk_X5_there_4]
      simp only [cb_eq, cb_ne, cb_lt, cb_ge, cb_gt, cb_le, cb_q, cb_qL, ri_s, rl_s, rr_s, rv_s, Option.bind_some, i10, cond_true, cond_false, lfR, ldR0, hs, ge0_8 hn (show b < n by omega), if_false, r_its1 A s r (show b < 8 by omega), nI_1, inS]
      by_cases e : s (54 + 4 * b + 1) = t
      · simp only [e, if_true]
      · simp only [e, if_false]
  rw [ev_X5_there _ _ _ (obR A s r), st n (Nat.le_refl n), bk_X5_there_4]
  simp only [cb_eq, cb_ne, cb_lt, cb_ge, cb_gt, cb_le, cb_q, cb_qL, ri_s, rl_s, rr_s, rv_s, Option.bind_some, i10, cond_true, cond_false, lfR, ldR0, hs, Int32.le_refl, if_true]
theorem k_whoIsIn (S : Nat → Nat → Int32) {j : Nat} (hj : j < 3) (s : Nat → Int32) (F : Nat → Nat → Int32) (rb : Nat) (t : Int32) {n : Nat} (hn : n ≤ 8) (hs : s 0 = nI n) : rv_EV 28 [.ref (sp j), .int t] (cR S j s F rb) = some (some (.int (inS s t n)), cR S j s F rb) := by
  have st : ∀ b, b ≤ n → rv_GO rc_X2_whoIsIn 4 [some (.ref (sp j)), some (.int t), some (.int 0), some (.int 0)] [] (cR S j s F rb) = rv_GO rc_X2_whoIsIn 4 [some (.ref (sp j)), some (.int t), some (.int (inS s t b)), some (.int (nI b))] [] (cR S j s F rb) := by
    intro b
    induction b with
    | zero => intro _; rfl
    | succ b ih =>
      intro hb
      rw [ih (by omega), bk_X2_whoIsIn_4]
      simp only [cb_eq, cb_ne, cb_lt, cb_ge, cb_gt, cb_le, cb_q, cb_qL, ri_s, rl_s, rr_s, rv_s, Option.bind_some, i10, cond_true, cond_false, cg7 S hj, hs, ge0_8 hn (show b < n by omega), if_false, cf4 S hj, cl4 S hj s F rb (show b < 8 by omega), nI_1, inS]
      by_cases e : s (54 + 4 * b + 1) = t
      · simp only [e, if_true]
      · simp only [e, if_false, or_0]
  rw [ev_X2_whoIsIn _ _ _ (co S hj s F rb), st n (Nat.le_refl n), bk_X2_whoIsIn_4]
  simp only [cb_eq, cb_ne, cb_lt, cb_ge, cb_gt, cb_le, cb_q, cb_qL, ri_s, rl_s, rr_s, rv_s, Option.bind_some, i10, cond_true, cond_false, cg7 S hj, hs, Int32.le_refl, if_true]
theorem s_tub {h : Nat} {A : Nat → Nat → Int32} {r : Nat → Int32} {S F : Nat → Nat → Int32} {rb : Nat} {s : Nat → Int32} (R : Rel h A r S F s) (x y : Int32) : Sim h 122 53 [.int x, .int y] A r S F rb s := by
  by_cases g : (0 ≤ x ∧ x < 10) ∧ (0 ≤ y ∧ y ≤ 6)
  · obtain ⟨t, ht, rfl⟩ := ix_rg (n := 10) (by decide) g.1.1 g.1.2
    obtain ⟨u, hu, rfl⟩ := ix_le (n := 6) (by decide) g.2.1 g.2.2
    have R1 := R
    obtain ⟨⟨⟨n, hn, hs, ok, sps⟩, -⟩, -⟩ := R1
    have a1 : rv_EV 120 [.ref 0, .int (nI t)] (mR A s r) = some (some (.int (allS s t)), mR A s r) := m_allIn (upA A 1 s) r ht
    have key : ∀ v : Int32, rv_EV 122 (.ref 0 :: [.int (nI t), .int (nI u)]) (mR A s r) = some (some (.int v), mR A s r) → rv_EV 53 (.ref 0 :: [.int (nI t), .int (nI u)]) (cR S 0 s F rb) = some (some (.int v), cR S 0 s F rb) → Sim h 122 53 [.int (nI t), .int (nI u)] A r S F rb s := fun v e1 e2 => sim_r R (Nat.le_refl _) e1 e2 R.1
    have m0 : rv_EV 122 (.ref 0 :: [.int (nI t), .int (nI u)]) (mR A s r) = (if (4 : Int32) ≤ nI u then if nI u = 4 then some (some (.int (s (4 + t))), mR A s r) else if nI u = 5 then some (some (.int (inS s (nI t) n)), mR A s r) else some (some (.int (allS s t)), mR A s r) else ((rv_ri (rv_EV 118 [.int (nI t), .int (nI u)] (mR A s r))).bind fun q9 => ((rv_ldI q9.2 1 q9.1).bind fun x10 => some (some (.int x10), q9.2)))) := by
      rw [ev_X5_tub _ _ _ _ (obR A s r)]
      simp only [cb_eq, cb_ne, cb_lt, cb_ge, cb_gt, cb_le, cb_q, cb_qL, ri_s, rl_s, rr_s, rv_s, Option.bind_some, i10, cond_true, cond_false, m_isTub, m_isIn, r_f0, lfR, a1, r_there A s r (nI t) hn hs, c4_, ldR A s r (show 4 + t < 96 by omega)]
      exact if2y g _ _
    have c0 : rv_EV 53 (.ref 0 :: [.int (nI t), .int (nI u)]) (cR S 0 s F rb) = (if u = 4 then some (some (.int (s (4 + t))), cR S 0 s F rb) else if u = 5 then some (some (.int (inS s (nI t) n)), cR S 0 s F rb) else if u = 6 then some (some (.int (allS s t)), cR S 0 s F rb) else ((rv_ri (rv_EV 15 [.ref (sp 0), .int (nI t), .int (nI u)] (cR S 0 s F rb))).bind fun q5 => some (some (.int q5.1), q5.2))) := by
      rw [ev_X4_tub _ _ _ _ (obD S 0 s F rb)]
      have hu' : u < 1000 := by omega
      simp only [cb_eq, cb_ne, cb_lt, cb_ge, cb_gt, cb_le, cb_q, cb_qL, ri_s, rl_s, rr_s, rv_s, Option.bind_some, i10, cond_true, cond_false, lfD0, lfD1, lfD2, lfD3, lfD4, lfD5, lfD6, lgD7, lgD8, sgD7, sgD8, c_isTub, c_isWithin, c_f0, cf1 S h03, cl1 S h03 s F rb ht, k_whoIsIn S h03 s F rb (nI t) hn hs, k_scentsIn S h03 s F rb ht, sw4 hu', sw5 hu', sw6 hu']
      exact if2y g _ _
    by_cases h4 : u < 4
    · refine key (s (14 + 4 * t + u)) ?_ ?_
      · rw [m0, if_neg (show ¬ (4 : Int32) ≤ nI u from nI_ge (a := u) (b := 4) h4 (by decide)), m_placeOf]
        simp only [cb_eq, cb_ne, cb_lt, cb_ge, cb_gt, cb_le, cb_q, cb_qL, ri_s, rl_s, rr_s, rv_s, Option.bind_some, i10, cond_true, cond_false, ldR A s r (show 14 + 4 * t + u < 96 by omega)]
      · rw [c0, if_neg (by omega), if_neg (by omega), if_neg (by omega), k_scentIn S h03 s F rb ht h4]
        rfl
    · rcases (show u = 4 ∨ u = 5 ∨ u = 6 by omega) with rfl | rfl | rfl
      · exact key _ (by rw [m0]; rfl) (by rw [c0]; rfl)
      · exact key _ (by rw [m0]; rfl) (by rw [c0]; rfl)
      · exact key _ (by rw [m0]; rfl) (by rw [c0]; rfl)
  · refine sim_f R (k := 0) (x := -1000001) (by decide) ?_ ?_
    · rw [ev_X5_tub _ _ _ _ (obR A s r)]
      simp only [cb_eq, cb_ne, cb_lt, cb_ge, cb_gt, cb_le, cb_q, cb_qL, ri_s, rl_s, rr_s, rv_s, Option.bind_some, i10, cond_true, cond_false, m_isTub, m_isIn, r_f0]
      exact if2n g _ _
    · rw [ev_X4_tub _ _ _ _ (obD S 0 s F rb)]
      simp only [cb_eq, cb_ne, cb_lt, cb_ge, cb_gt, cb_le, cb_q, cb_qL, ri_s, rl_s, rr_s, rv_s, Option.bind_some, i10, cond_true, cond_false, lfD0, lfD1, lfD2, lfD3, lfD4, lfD5, lfD6, lgD7, lgD8, sgD7, sgD8, c_isTub, c_isWithin, c_f0]
      exact if2n g _ _
