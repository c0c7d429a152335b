/-! THE CALLS: now, count, as -/
def nowS (s : Nat → Int32) (n u : Nat) : Int32 := match u with
  | 0 => s 1
  | 1 => sumS (fun k => s (4 + k)) 10
  | 2 => sumS (fun k => s (14 + k)) 40
  | 3 => setB (belB s 40) 10
  | 4 => setB (allB s) n
  | _ => setB (unkB s n) n
theorem nI_bd {x : Int32} {n : Nat} (hn : n < 2 ^ 30) : (∃ u, u ≤ n ∧ x = nI u) ↔ (0 ≤ x ∧ x ≤ nI n) := by
  constructor
  · rintro ⟨u, hu, rfl⟩
    exact ⟨nI_pos' (by omega), nI_le hu (by omega)⟩
  · rintro ⟨a, b⟩
    exact ix_le hn a b
theorem no_c {x : Int32} {m : Nat} (hm : m < 2 ^ 30) (g : ¬ (0 ≤ x ∧ x ≤ nI m)) {k : Nat} (hk : k ≤ m) : ¬ x = Int32.ofInt (k : Int) := by
  intro e
  refine g ((nI_bd hm).mp ⟨k, hk, ?_⟩)
  rw [e]
  unfold nI
  exact Int32.ofInt_eq_ofNat
theorem s_now {h : Nat} {A : Nat → Nat → Int32} {r : Nat → Int32} {S F : Nat → Nat → Int32} {rb : Nat} {s : Nat → Int32} (R : Rel h A r S F s) (x : Int32) : Sim h 145 61 [.int x] A r S F rb s := by
  by_cases g : 0 ≤ x ∧ x ≤ 5
  · obtain ⟨u, hu, rfl⟩ := ix_le (n := 5) (by decide) g.1 g.2
    obtain ⟨n, hn, hs, ok, sps⟩ := R.1.1
    have hu' : u < 1000 := by omega
    refine sim_r (s' := s) (x := nowS s n u) R (Nat.le_refl _) ?_ ?_ R.1
    · rw [ev_X5_now _ _ _ (obR A s r)]
      simp only [cb_eq, cb_ne, cb_lt, cb_ge, cb_gt, cb_le, cb_q, cb_qL, ri_s, rl_s, rr_s, rv_s, Option.bind_some, i10, cond_true, cond_false, lfR, ldR1, r_sumW, r_sumC, r_coldTubs, r_knowing A s r hn hs, r_unknown A s r hn hs, r_f0, sw0 hu', sw1 hu', sw2 hu', sw3 hu', sw4 hu', sw5 hu']
      rcases (show u = 0 ∨ u = 1 ∨ u = 2 ∨ u = 3 ∨ u = 4 ∨ u = 5 by omega) with rfl | rfl | rfl | rfl | rfl | rfl <;> rfl
    · rw [ev_X4_now _ _ _ (obD S 0 s F rb)]
      simp only [cb_eq, cb_ne, cb_lt, cb_ge, cb_gt, cb_le, cb_q, cb_qL, ri_s, rl_s, rr_s, rv_s, Option.bind_some, i10, cond_true, cond_false, lfD0, lfD1, lfD2, lfD3, lfD4, lfD5, lfD6, lgD7, lgD8, sgD7, sgD8, c_isWithin, cg9 S h03, k_allWarmth S h03, k_allScents S h03, k_tubsBelow S h03, k_whoKnowAll S h03 s F rb hn hs, k_whoAreUnknown S h03 s F rb hn hs, c_f0, sw0 hu', sw1 hu', sw2 hu', sw3 hu', sw4 hu', sw5 hu']
      refine (if1y g _ _).trans ?_
      rcases (show u = 0 ∨ u = 1 ∨ u = 2 ∨ u = 3 ∨ u = 4 ∨ u = 5 by omega) with rfl | rfl | rfl | rfl | rfl | rfl <;> rfl
  · have nc : ∀ k : Nat, k ≤ 5 → ¬ x = Int32.ofInt (k : Int) := fun k hk => no_c (m := 5) (by decide) g hk
    have n0 := nc 0 (by decide)
    have n1 := nc 1 (by decide)
    have n2 := nc 2 (by decide)
    have n3 := nc 3 (by decide)
    have n4 := nc 4 (by decide)
    have n5 := nc 5 (by decide)
    simp only [Int.cast_ofNat_Int] at n0 n1 n2 n3 n4 n5
    refine sim_f R (k := 0) (x := -1000001) (by decide) ?_ ?_
    · rw [ev_X5_now _ _ _ (obR A s r)]
      simp only [cb_eq, cb_ne, cb_lt, cb_ge, cb_gt, cb_le, cb_q, cb_qL, ri_s, rl_s, rr_s, rv_s, Option.bind_some, i10, cond_true, cond_false, r_f0, n0, n1, n2, n3, n4, n5, if_false]
    · rw [ev_X4_now _ _ _ (obD S 0 s F rb)]
      simp only [cb_eq, cb_ne, cb_lt, cb_ge, cb_gt, cb_le, cb_q, cb_qL, ri_s, rl_s, rr_s, rv_s, Option.bind_some, i10, cond_true, cond_false, lfD0, lfD1, lfD2, lfD3, lfD4, lfD5, lfD6, lgD7, lgD8, sgD7, sgD8, c_isWithin, c_f0]
      exact if1n g _ _
/-! count -/
def pairS (s : Nat → Int32) (n : Nat) : Int32 := sumS (fun b => nI (popS (knS s b))) n
def spotS (s : Nat → Int32) : Nat → Int32
  | 0 => 0
  | k + 1 => if s (86 + k) = -1 then spotS s k else spotS s k + 1
theorem r_pairs (A : Nat → Nat → Int32) (s r : Nat → Int32) {n : Nat} (hn : n ≤ 8) (hs : s 0 = nI n) (ok : okN s n) : rv_GO rc_X5_count 64 [some (.ref 0), none, some (.int 0), some (.int 0)] [] (mR A s r) = some (some (.int (pairS s n)), mR A s r) := by
  have st : ∀ k, k ≤ n → rv_GO rc_X5_count 64 [some (.ref 0), none, some (.int 0), some (.int 0)] [] (mR A s r) = rv_GO rc_X5_count 64 [some (.ref 0), none, some (.int (pairS s k)), some (.int (nI k))] [] (mR A s r) := by
    intro k
    induction k with
    | zero => intro _; rfl
    | succ k ih =>
      intro hk
      obtain ⟨-, -, -, ⟨n1, n2⟩⟩ := ok k (by omega)
      rw [ih (by omega), bk_X5_count_64]
      simp only [cb_eq, cb_ne, cb_lt, cb_ge, cb_gt, cb_le, cb_q, cb_qL, ri_s, rl_s, rr_s, rv_s, Option.bind_some, i10, cond_true, cond_false, lfR, ldR0, hs, ge0_8 hn (show k < n by omega), if_false, r_its3 A s r (show k < 8 by omega), n1, m_many (show knS s k < 256 by omega), nI_1]
      rfl
  rw [st n (Nat.le_refl _), bk_X5_count_64]
  simp only [cb_eq, cb_ne, cb_lt, cb_ge, cb_gt, cb_le, cb_q, cb_qL, ri_s, rl_s, rr_s, rv_s, Option.bind_some, i10, cond_true, cond_false, lfR, ldR0, hs, Int32.le_refl, if_true]
theorem k_knownPairs (S : Nat → Nat → Int32) {j : Nat} (hj : j < 3) (s : Nat → Int32) (F : Nat → Nat → Int32) (rb : Nat) {n : Nat} (hn : n ≤ 8) (hs : s 0 = nI n) (ok : okN s n) : rv_EV 32 [.ref (sp j)] (cR S j s F rb) = some (some (.int (pairS s n)), cR S j s F rb) := by
  have st : ∀ k, k ≤ n → rv_GO rc_X2_knownPairs 4 [some (.ref (sp j)), some (.int 0), some (.int 0)] [] (cR S j s F rb) = rv_GO rc_X2_knownPairs 4 [some (.ref (sp j)), some (.int (pairS s k)), some (.int (nI k))] [] (cR S j s F rb) := by
    intro k
    induction k with
    | zero => intro _; rfl
    | succ k ih =>
      intro hk
      obtain ⟨-, -, -, ⟨n1, n2⟩⟩ := ok k (by omega)
      rw [ih (by omega), bk_X2_knownPairs_4]
      simp only [cb_eq, cb_ne, cb_lt, cb_ge, cb_gt, cb_le, cb_q, cb_qL, ri_s, rl_s, rr_s, rv_s, Option.bind_some, i10, cond_true, cond_false, cg7 S hj, hs, ge0_8 hn (show k < n by omega), if_false, cf6 S hj, cl6 S hj s F rb (show k < 8 by omega), n1, k_bitCount (show knS s k < 256 by omega), nI_1]
      rfl
  rw [ev_X2_knownPairs _ _ (co S hj s F rb), st n (Nat.le_refl _), bk_X2_knownPairs_4]
  simp only [cb_eq, cb_ne, cb_lt, cb_ge, cb_gt, cb_le, cb_q, cb_qL, ri_s, rl_s, rr_s, rv_s, Option.bind_some, i10, cond_true, cond_false, cg7 S hj, hs, Int32.le_refl, if_true]
theorem add_0 (x : Int32) : x + 0 = x := by simp
theorem r_spots (A : Nat → Nat → Int32) (s r : Nat → Int32) {n : Nat} (hn : n ≤ 8) (sps : spo s n) : rv_GO rc_X5_count 125 [some (.ref 0), none, some (.int 0), some (.int 0)] [] (mR A s r) = some (some (.int (spotS s 10)), mR A s r) := by
  have st : ∀ k, k ≤ 10 → rv_GO rc_X5_count 125 [some (.ref 0), none, some (.int 0), some (.int 0)] [] (mR A s r) = rv_GO rc_X5_count 125 [some (.ref 0), none, some (.int (spotS s k)), some (.int (nI k))] [] (mR A s r) := by
    intro k
    induction k with
    | zero => intro _; rfl
    | succ k ih =>
      intro hk
      rw [ih (by omega), bk_X5_count_125]
      simp only [cb_eq, cb_ne, cb_lt, cb_ge, cb_gt, cb_le, cb_q, cb_qL, ri_s, rl_s, rr_s, rv_s, Option.bind_some, i10, cond_true, cond_false, lfR, c86_, show ¬ (10 : Int32) ≤ nI k from nI_ge (a := k) (b := 10) (by omega) (by decide), if_false, ldR A s r (show 86 + k < 96 by omega), nI_1, spotS]
      rcases sps k (by omega) with e | ⟨b, hb, e⟩
      · rw [e, if_neg (by decide), if_pos rfl, add_0]
      · rw [e, if_pos (nI_pos' (by omega)), if_neg (fun q => m1_nn q (nI_pos' (by omega)))]
  rw [st 10 (Nat.le_refl _), bk_X5_count_125]
  simp only [cb_eq, cb_ne, cb_lt, cb_ge, cb_gt, cb_le, cb_q, cb_qL, ri_s, rl_s, rr_s, rv_s, Option.bind_some, i10, cond_true, cond_false, show (10 : Int32) ≤ nI 10 from by decide, if_true]
theorem k_heldSpots (S : Nat → Nat → Int32) {j : Nat} (hj : j < 3) (s : Nat → Int32) (F : Nat → Nat → Int32) (rb : Nat) : rv_EV 37 [.ref (sp j)] (cR S j s F rb) = some (some (.int (spotS s 10)), cR S j s F rb) := by
  have st : ∀ k, k ≤ 10 → rv_GO rc_X2_heldSpots 13 [none, some (.int 0), some (.ref (sa j 7)), some (.int 10), some (.int 0), none] [] (cR S j s F rb) = rv_GO rc_X2_heldSpots 13 [none, some (.int (spotS s k)), some (.ref (sa j 7)), some (.int 10), some (.int (nI k)), none] [] (cR S j s F rb) := by
    intro k
    induction k with
    | zero => intro _; rfl
    | succ k ih =>
      intro hk
      rw [ih (by omega), bk_X2_heldSpots_13]
      simp only [cb_eq, cb_ne, cb_lt, cb_ge, cb_gt, cb_le, cb_q, cb_qL, ri_s, rl_s, rr_s, rv_s, Option.bind_some, i10, cond_true, cond_false, show ¬ (10 : Int32) ≤ nI k from nI_ge (a := k) (b := 10) (by omega) (by decide), if_false, cl7 S hj s F rb (show k < 10 by omega), nI_1, spotS]
      by_cases e : s (86 + k) = -1
      · rw [if_pos e, if_pos e]
      · rw [if_neg e, if_neg e]
  rw [ev_X2_heldSpots _ _ (co S hj s F rb)]
  simp only [cb_eq, cb_ne, cb_lt, cb_ge, cb_gt, cb_le, cb_q, cb_qL, ri_s, rl_s, rr_s, rv_s, Option.bind_some, i10, cond_true, cond_false, cf7 S hj, len7 S hj]
  rw [st 10 (Nat.le_refl _), bk_X2_heldSpots_13]
  simp only [cb_eq, cb_ne, cb_lt, cb_ge, cb_gt, cb_le, cb_q, cb_qL, ri_s, rl_s, rr_s, rv_s, Option.bind_some, i10, cond_true, cond_false, show (10 : Int32) ≤ nI 10 from by decide, if_true]
def cntS (s : Nat → Int32) (n : Nat) (t : Int32) (u : Nat) : Int32 := match u with
  | 0 => s 1
  | 1 => s 0
  | 2 => pairS s n
  | 3 => sumS (fun k => s (4 + k)) 10
  | 4 => sumS (fun k => s (14 + k)) 40
  | 5 => t
  | 6 => s 3
  | _ => spotS s 10
theorem ldR3 (A : Nat → Nat → Int32) (s r : Nat → Int32) : rv_ldI (mR A s r) 1 3 = some (s 3) := ldR A s r (j := 3) (by decide)
theorem s_count {h : Nat} {A : Nat → Nat → Int32} {r : Nat → Int32} {S F : Nat → Nat → Int32} {rb : Nat} {s : Nat → Int32} (R : Rel h A r S F s) (x : Int32) : Sim h 207 93 [.int x] A r S F rb s := by
  by_cases g : 0 ≤ x ∧ x ≤ 7
  · obtain ⟨u, hu, rfl⟩ := ix_le (n := 7) (by decide) g.1 g.2
    obtain ⟨n, hn, hs, ok, sps⟩ := R.1.1
    obtain ⟨n', -, e1, e2, -⟩ := R.2.2.1
    have e3 : F 0 7 = r 7 := by rw [e1, e2]
    have hu' : u < 1000 := by omega
    refine sim_r (s' := s) (x := cntS s n (r 7) u) R (Nat.le_refl _) ?_ ?_ R.1
    · rw [ev_X5_count _ _ _ (obR A s r)]
      simp only [cb_eq, cb_ne, cb_lt, cb_ge, cb_gt, cb_le, cb_q, cb_qL, ri_s, rl_s, rr_s, rv_s, Option.bind_some, i10, cond_true, cond_false, lfR, lgR4, sgR4, lgR7, sgR7, lgR11, sgR11, lgR12, sgR12, lgR13, sgR13, lgR14, sgR14, lgR15, sgR15, lfR_1, lfR_2, lfR_3, lfR_5, lfR_6, lfR_8, lfR_9, lfR_10, ldR0, ldR1, ldR3, r_sumW, r_sumC, r_pairs A s r hn hs ok, r_spots A s r hn sps, r_f0, sw0 hu', sw1 hu', sw2 hu', sw3 hu', sw4 hu', sw5 hu', sw6 hu', sw7 hu']
      rcases (show u = 0 ∨ u = 1 ∨ u = 2 ∨ u = 3 ∨ u = 4 ∨ u = 5 ∨ u = 6 ∨ u = 7 by omega) with rfl | rfl | rfl | rfl | rfl | rfl | rfl | rfl <;> rfl
    · rw [ev_X4_count _ _ _ (obD S 0 s F rb)]
      simp only [cb_eq, cb_ne, cb_lt, cb_ge, cb_gt, cb_le, cb_q, cb_qL, ri_s, rl_s, rr_s, rv_s, Option.bind_some, i10, cond_true, cond_false, lfD0, lfD1, lfD2, lfD3, lfD4, lfD5, lfD6, lgD7, lgD8, sgD7, sgD8, c_isWithin, cg7 S h03, cg9 S h03, cg10 S h03, k_allWarmth S h03, k_allScents S h03, k_knownPairs S h03 s F rb hn hs ok, k_heldSpots S h03, c_f0, sw0 hu', sw1 hu', sw2 hu', sw3 hu', sw4 hu', sw5 hu', sw6 hu', sw7 hu', e3]
      refine (if1y g _ _).trans ?_
      rcases (show u = 0 ∨ u = 1 ∨ u = 2 ∨ u = 3 ∨ u = 4 ∨ u = 5 ∨ u = 6 ∨ u = 7 by omega) with rfl | rfl | rfl | rfl | rfl | rfl | rfl | rfl <;> rfl
  · have nc : ∀ k : Nat, k ≤ 7 → ¬ x = Int32.ofInt (k : Int) := fun k hk => no_c (m := 7) (by decide) g hk
    have n0 := nc 0 (by decide)
    have n1 := nc 1 (by decide)
    have n2 := nc 2 (by decide)
    have n3 := nc 3 (by decide)
    have n4 := nc 4 (by decide)
    have n5 := nc 5 (by decide)
    have n6 := nc 6 (by decide)
    have n7 := nc 7 (by decide)
    simp only [Int.cast_ofNat_Int] at n0 n1 n2 n3 n4 n5 n6 n7
    refine sim_f R (k := 0) (x := -1000001) (by decide) ?_ ?_
    · rw [ev_X5_count _ _ _ (obR A s r)]
      simp only [cb_eq, cb_ne, cb_lt, cb_ge, cb_gt, cb_le, cb_q, cb_qL, ri_s, rl_s, rr_s, rv_s, Option.bind_some, i10, cond_true, cond_false, r_f0, n0, n1, n2, n3, n4, n5, n6, n7, if_false]
    · rw [ev_X4_count _ _ _ (obD S 0 s F rb)]
      simp only [cb_eq, cb_ne, cb_lt, cb_ge, cb_gt, cb_le, cb_q, cb_qL, ri_s, rl_s, rr_s, rv_s, Option.bind_some, i10, cond_true, cond_false, lfD0, lfD1, lfD2, lfD3, lfD4, lfD5, lfD6, lgD7, lgD8, sgD7, sgD8, c_isWithin, c_f0]
      exact if1n g _ _
/-! as -/
def abvS (k : Nat) : Int32 := match k with
  | 0 => -1
  | 1 => 0
  | 2 => 0
  | 3 => 2
  | 4 => 3
  | 5 => 0
  | _ => 1
def undB (a k : Nat) : Bool := k == 0 || a == k || (k == 2 && (a == 3 || a == 4)) || (k == 3 && a == 4) || (k == 1 && a == 6)
theorem ld_abv {a : Nat} (ha : a < 7) (w : rv_W) : rv_ldI w 3000 (nI a) = some (abvS a) := by
  rcases (show a = 0 ∨ a = 1 ∨ a = 2 ∨ a = 3 ∨ a = 4 ∨ a = 5 ∨ a = 6 by omega) with rfl | rfl | rfl | rfl | rfl | rfl | rfl <;> rfl
theorem m_isUnder {a k : Nat} (ha : a < 7) (hk : k < 7) (w : rv_W) : rv_EV 195 [.int (nI a), .int (nI k)] w = some (some (.int (if undB a k = true then 1 else 0)), w) := by
  rw [ev_X5_isUnder, bk_X5_isUnder_24, bk_X5_isUnder_34]
  simp only [cb_eq, cb_ne, cb_lt, cb_ge, cb_gt, cb_le, cb_q, cb_qL, ri_s, rl_s, rr_s, rv_s, Option.bind_some, i10, cond_true, cond_false]
  rcases (show a = 0 ∨ a = 1 ∨ a = 2 ∨ a = 3 ∨ a = 4 ∨ a = 5 ∨ a = 6 by omega) with rfl | rfl | rfl | rfl | rfl | rfl | rfl <;>
  rcases (show k = 0 ∨ k = 1 ∨ k = 2 ∨ k = 3 ∨ k = 4 ∨ k = 5 ∨ k = 6 by omega) with rfl | rfl | rfl | rfl | rfl | rfl | rfl <;> rfl
def uL : Nat → Int32 → Int32 → Int32 → Option Int32
  | 0, _, _, _ => none
  | f + 1, k, x, l => if 7 ≤ l then some 0 else if ¬ (0 ≤ x ∧ x ≤ 6) then some 0 else if x = k then some 1 else uL f k (abvS x.toNatClampNeg) (l + 1)
theorem uL_und : ∀ a k : Fin 7, uL 9 (nI k.val) (nI a.val) 0 = some (if undB a.val k.val = true then 1 else 0) := by decide +kernel
theorem k_und_L (k : Int32) (w : rv_W) : ∀ (f : Nat) (x l y : Int32), uL f k x l = some y → rv_GO rc_X0_isUnder 4 [none, some (.int k), some (.int x), some (.int l)] [] w = some (some (.int y), w)
  | 0, _, _, _, h => by cases h
  | f + 1, x, l, y, h => by
    rw [uL] at h
    rw [bk_X0_isUnder_4]
    simp only [cb_eq, cb_ne, cb_lt, cb_ge, cb_gt, cb_le, cb_q, cb_qL, ri_s, rl_s, rr_s, rv_s, Option.bind_some, i10, cond_true, cond_false, c_isKind]
    by_cases h1 : 7 ≤ l
    · rw [if_pos h1] at h ⊢
      cases h; rfl
    · rw [if_neg h1] at h ⊢
      by_cases h2 : 0 ≤ x ∧ x ≤ 6
      · rw [if_neg (fun q => q h2)] at h ⊢
        obtain ⟨a, ha, rfl⟩ := ix_le (n := 6) (by decide) h2.1 h2.2
        rw [nI_clamp (by omega)] at h
        by_cases h3 : nI a = k
        · rw [if_pos h3] at h ⊢
          cases h; rfl
        · rw [if_neg h3] at h ⊢
          rw [ld_abv (by omega)]
          exact k_und_L k w f _ _ _ h
      · rw [if_pos h2] at h ⊢
        cases h; rfl
theorem k_isUnder {a k : Nat} (ha : a < 7) (hk : k < 7) (w : rv_W) : rv_EV 1 [.int (nI a), .int (nI k)] w = some (some (.int (if undB a k = true then 1 else 0)), w) := by
  rw [ev_X0_isUnder]
  exact k_und_L _ w 9 _ _ _ (uL_und ⟨a, ha⟩ ⟨k, hk⟩)
theorem s_as {h : Nat} {A : Nat → Nat → Int32} {r : Nat → Int32} {S F : Nat → Nat → Int32} {rb : Nat} {s : Nat → Int32} (R : Rel h A r S F s) (x y : Int32) : Sim h 196 84 [.int x, .int y] A r S F rb s := by
  obtain ⟨n, hn, hs, ok, sps⟩ := R.1.1
  by_cases g : (0 ≤ x ∧ x < 10) ∧ (0 ≤ y ∧ y ≤ 6)
  · have g' : (0 ≤ x ∧ x ≤ 9) ∧ (0 ≤ y ∧ y ≤ 6) := ⟨⟨g.1.1, (lt10_9 x).mp g.1.2⟩, g.2⟩
    obtain ⟨t, ht, rfl⟩ := ix_rg (n := 10) (by decide) g.1.1 g.1.2
    obtain ⟨k, hk, rfl⟩ := ix_le (n := 6) (by decide) g.2.1 g.2.2
    rcases sps t ht with e | ⟨b, hb, e⟩
    · have nb : ¬ ((0 : Int32) ≤ -1 ∧ (-1 : Int32) < s 0) := fun q => absurd q.1 (by decide)
      refine sim_f R (k := 5) (x := -1000006) (by decide) ?_ ?_
      · rw [ev_X5_as _ _ _ _ (obR A s r)]
        simp only [cb_eq, cb_ne, cb_lt, cb_ge, cb_gt, cb_le, cb_q, cb_qL, ri_s, rl_s, rr_s, rv_s, Option.bind_some, i10, cond_true, cond_false, m_isIn, r_f0, r_f5, lfR, c86_, ldR A s r (show 86 + t < 96 by omega), e, show ¬ (0 : Int32) ≤ -1 from by decide, if_false]
        exact if2y g' _ _
      · rw [ev_X4_as _ _ _ _ (obD S 0 s F rb)]
        simp only [cb_eq, cb_ne, cb_lt, cb_ge, cb_gt, cb_le, cb_q, cb_qL, ri_s, rl_s, rr_s, rv_s, Option.bind_some, i10, cond_true, cond_false, lfD0, lfD1, lfD2, lfD3, lfD4, lfD5, lfD6, lgD7, lgD8, sgD7, sgD8, c_isSpot, c_isKind, c_f0, c_f5, cf7 S h03, cl7 S h03 s F rb ht, e, k_hasBather S h03, nb, not_false_eq_true, if_true]
        exact if2y g _ _
    · obtain ⟨⟨k1, k2⟩, -⟩ := ok b hb
      have pb : 0 ≤ nI b ∧ nI b < s 0 := ⟨nI_pos' (by omega), by rw [hs]; exact nI_lt hb (by omega)⟩
      cases hu : undB (kdS s b) k with
      | true =>
        refine sim_r (s' := s) (x := nI b) R (Nat.le_refl _) ?_ ?_ R.1
        · rw [ev_X5_as _ _ _ _ (obR A s r)]
          simp only [cb_eq, cb_ne, cb_lt, cb_ge, cb_gt, cb_le, cb_q, cb_qL, ri_s, rl_s, rr_s, rv_s, Option.bind_some, i10, cond_true, cond_false, m_isIn, r_f0, r_f5, lfR, c86_, ldR A s r (show 86 + t < 96 by omega), e, pb.1, if_true, r_its0 A s r (show b < 8 by omega), k1, m_isUnder k2 (show k < 7 by omega), hu, not_true_eq_false, if_false]
          exact if2y g' _ _
        · rw [ev_X4_as _ _ _ _ (obD S 0 s F rb)]
          simp only [cb_eq, cb_ne, cb_lt, cb_ge, cb_gt, cb_le, cb_q, cb_qL, ri_s, rl_s, rr_s, rv_s, Option.bind_some, i10, cond_true, cond_false, lfD0, lfD1, lfD2, lfD3, lfD4, lfD5, lfD6, lgD7, lgD8, sgD7, sgD8, c_isSpot, c_isKind, c_f0, c_f5, cf7 S h03, cl7 S h03 s F rb ht, e, k_hasBather S h03, pb, and_self, not_true_eq_false, if_true, if_false, cf3 S h03, cl3 S h03 s F rb (show b < 8 by omega), k1, k_isUnder k2 (show k < 7 by omega), hu]
          exact if2y g _ _
      | false =>
        refine sim_f R (k := 2) (x := -1000003) (by decide) ?_ ?_
        · rw [ev_X5_as _ _ _ _ (obR A s r)]
          simp only [cb_eq, cb_ne, cb_lt, cb_ge, cb_gt, cb_le, cb_q, cb_qL, ri_s, rl_s, rr_s, rv_s, Option.bind_some, i10, cond_true, cond_false, m_isIn, r_f0, r_f2, r_f5, lfR, c86_, ldR A s r (show 86 + t < 96 by omega), e, pb.1, if_true, r_its0 A s r (show b < 8 by omega), k1, m_isUnder k2 (show k < 7 by omega), hu, Bool.false_eq_true, not_false_eq_true, if_false]
          exact if2y g' _ _
        · rw [ev_X4_as _ _ _ _ (obD S 0 s F rb)]
          simp only [cb_eq, cb_ne, cb_lt, cb_ge, cb_gt, cb_le, cb_q, cb_qL, ri_s, rl_s, rr_s, rv_s, Option.bind_some, i10, cond_true, cond_false, lfD0, lfD1, lfD2, lfD3, lfD4, lfD5, lfD6, lgD7, lgD8, sgD7, sgD8, c_isSpot, c_isKind, c_f0, c_f2, c_f5, cf7 S h03, cl7 S h03 s F rb ht, e, k_hasBather S h03, pb, and_self, not_true_eq_false, if_true, if_false, cf3 S h03, cl3 S h03 s F rb (show b < 8 by omega), k1, k_isUnder k2 (show k < 7 by omega), hu, Bool.false_eq_true, not_false_eq_true]
          exact if2y g _ _
  · have g' : ¬ ((0 ≤ x ∧ x ≤ 9) ∧ (0 ≤ y ∧ y ≤ 6)) := fun q => g ⟨⟨q.1.1, (lt10_9 x).mpr q.1.2⟩, q.2⟩
    refine sim_f R (k := 0) (x := -1000001) (by decide) ?_ ?_
    · rw [ev_X5_as _ _ _ _ (obR A s r)]
      simp only [cb_eq, cb_ne, cb_lt, cb_ge, cb_gt, cb_le, cb_q, cb_qL, ri_s, rl_s, rr_s, rv_s, Option.bind_some, i10, cond_true, cond_false, m_isIn, r_f0]
      exact if2n g' _ _
    · rw [ev_X4_as _ _ _ _ (obD S 0 s F rb)]
      simp only [cb_eq, cb_ne, cb_lt, cb_ge, cb_gt, cb_le, cb_q, cb_qL, ri_s, rl_s, rr_s, rv_s, Option.bind_some, i10, cond_true, cond_false, lfD0, lfD1, lfD2, lfD3, lfD4, lfD5, lfD6, lgD7, lgD8, sgD7, sgD8, c_isSpot, c_isKind, c_f0]
      exact if2n g _ _
