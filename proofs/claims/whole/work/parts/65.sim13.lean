/-! leave -/
theorem pop_le (k : Nat) : popS k ≤ 8 := by unfold popS; omega
theorem pop_all : ∀ n : Fin 9, ∀ k : Fin 256, k.val < 2 ^ n.val - 1 → popS k.val < popS (2 ^ n.val - 1) := by decide +kernel
theorem sh_all : ∀ n : Fin 9, (1 : Int32) <<< (nI n.val &&& 31) = nI (2 ^ n.val) := by decide
theorem gone_all : ∀ n : Fin 9, ∀ b : Fin 8, b.val < n.val → ¬ (nI (2 ^ n.val - 1) >>> (nI b.val &&& 31)) &&& 1 = 0 := by decide +kernel
theorem untS_none {P : Nat → Bool} (h : ∀ k, P k = false) : ∀ d k, untS P d k = none
  | 0, _ => rfl
  | d + 1, k => by rw [untS, if_neg (by rw [h k]; decide)]; exact untS_none h d (k + 1)
theorem s_leave {h : Nat} {A : Nat → Nat → Int32} {r : Nat → Int32} {S F : Nat → Nat → Int32} {rb : Nat} {s : Nat → Int32} (R : Rel h A r S F s) (hh : h ≤ 30000) (x y : Int32) : Sim h 162 73 [.int x, .int y] A r S F rb s := by
  by_cases g : (0 ≤ x ∧ x < 4) ∧ (0 ≤ y ∧ y ≤ 20)
  · obtain ⟨⟨n, hn, hs, ok, -⟩, ⟨t1, ht1, e1⟩, hw, h9⟩ := R.1
    obtain ⟨c, hc, rfl⟩ := ix_rg (n := 4) (by decide) g.1.1 g.1.2
    obtain ⟨k, hk, rfl⟩ := ix_le (n := 20) (by decide) g.2.1 g.2.2
    have p2 : 2 ^ n ≤ 256 := by
      have : 2 ^ n ≤ 2 ^ 8 := Nat.pow_le_pow_right (by decide) hn
      omega
    have p1 : 1 ≤ 2 ^ n := Nat.one_le_two_pow
    obtain ⟨a, ha⟩ : ∃ a, 2 ^ n = a + 1 := ⟨2 ^ n - 1, by omega⟩
    have ea : 2 ^ n - 1 = a := by omega
    have sh : (1 : Int32) <<< (nI n &&& 31) = nI (a + 1) := by rw [← ha]; exact sh_all ⟨n, by omega⟩
    have T : ∀ (o : Nat) (p q : Nat → Int32), ∃ q', rv_EV 160 [.ref 0, .int (nI c), .int (nI k), .int (nI o)] (mR (upA A 4 p) s r) = some (some (.int (b01 (hidB (nI o) (upd s 96 (nI o)) n c k 0))), mR (upA A 4 (upd s 96 (nI o))) s r) ∧ rv_EV 105 [.ref 0, .int (nI c), .int (nI k)] (cD S s (upd s 96 (nI o)) F rb) = some (some (.int (b01 (!hidB (nI o) (upd s 96 (nI o)) n c k 0))), cD S s q' F rb) := by
      intro o p q
      have hs' : upd s 96 (nI o) 0 = nI n := by rw [pk_un (by omega)]; exact hs
      have ok' : okN (upd s 96 (nI o)) n := fun b hb => (okB_congr (fun i h1 _ => pk_un (by omega))).1 (ok b hb)
      have hw' : wOK (upd s 96 (nI o)) := ⟨by rw [pk_un (by omega)]; exact hw.1, fun u hu => by rw [pk_un (by omega)]; exact hw.2 u hu⟩
      have e1' : upd s 96 (nI o) 1 = nI t1 := by rw [pk_un (by omega)]; exact e1
      obtain ⟨q', hq'⟩ := d_isLearned S s (upd s 96 (nI o)) F rb hn hs' ok' hw' e1' (by omega) hc hk
      rw [pk_us] at hq'
      refine ⟨q', ?_, hq'⟩
      have rh := r_isHidden (upA A 4 p) (upd s 96 (nI o)) r (nI o) hn hs' ok' hc (show k < 2 ^ 31 by omega)
      have mc : ∀ A, mR A (upd s 96 (nI o)) r = mR A s r := fun A => mR_congr A r (fun j hj => pk_un (by omega))
      rw [mc, mc, upA_upA] at rh
      exact rh
    have L : ∀ (d o : Nat) (mb cb : Int32) (p q : Nat → Int32), o + d = a → ((mb = -1 ∧ cb = nI a) ∨ ∃ b, b < a ∧ mb = nI b ∧ cb = nI b) → Two A r S F rb s (rv_GO rc_X5_leave 31 [some (.ref 0), some (.int (nI c)), some (.int (nI k)), some (.int mb), some (.int (nI o))] [] (mR (upA A 4 p) s r)) (rv_GO rc_X4_leave 40 [some (.ref 0), some (.int (nI c)), some (.int (nI k)), some (.int (nI a)), some (.int cb), some (.int (nI o))] [] (cD S s q F rb)) := by
      intro d
      induction d with
      | zero =>
        intro o mb cb p q ho hb
        have ho : o = a := by omega
        subst ho
        have fin : ∀ (x : Int32) (p : Nat → Int32), rv_GO rc_X5_leave 31 [some (.ref 0), some (.int (nI c)), some (.int (nI k)), some (.int x), some (.int (nI (o + 1)))] [] (mR (upA A 4 p) s r) = some (some (.int x), mR (upA A 4 p) s r) := by
          intro x p
          rw [bk_X5_leave_31]
          simp only [cb_eq, cb_ne, cb_lt, cb_ge, cb_gt, cb_le, cb_q, cb_qL, ri_s, rl_s, rr_s, rv_s, Option.bind_some, i10, cond_true, cond_false, lfR, ldR0, hs, sh, Int32.le_refl, if_true]
        obtain ⟨q', h1, h2⟩ := T o p q
        rw [bk_X5_leave_31, bk_X4_leave_40]
        simp only [cb_eq, cb_ne, cb_lt, cb_ge, cb_gt, cb_le, cb_q, cb_qL, ri_s, rl_s, rr_s, rv_s, Option.bind_some, i10, cond_true, cond_false, lfR, ldR0, hs, sh, nI_ge (show o < o + 1 by omega) (show o + 1 < 2 ^ 31 by omega), if_false, Int32.le_refl, if_true]
        rcases hb with ⟨rfl, rfl⟩ | ⟨b, hb, rfl, rfl⟩
        · have hid : hidB (nI o) (upd s 96 (nI o)) n c k 0 = true := by
            unfold hidB
            rw [untS_none]
            · rfl
            · intro j
              unfold lrnP
              rw [decide_eq_true]
              · rfl
              · intro b hb
                have := gone_all ⟨n, by omega⟩ ⟨b, by omega⟩ hb
                simp only [ea] at this
                unfold nwB
                rw [decide_eq_false this, Bool.false_and]
          rw [hid] at h1
          simp only [m1_lt, if_true, bk_X5_leave_60, h1, cb_eq, cb_ne, cb_lt, cb_ge, cb_gt, cb_le, cb_q, cb_qL, ri_s, rl_s, rr_s, rv_s, Option.bind_some, i10, cond_true, cond_false, show ¬ b01 true = 0 from by decide, if_false, nI_1, fin]
          exact two_n
        · have lt := pop_all ⟨n, by omega⟩ ⟨b, by omega⟩ (by show b < 2 ^ n - 1; omega)
          simp only [ea] at lt
          have := pop_le o
          have := pop_le b
          simp only [show ¬ nI b < 0 from Int32.not_lt.mpr (nI_pos' (by omega)), if_false, m_many (show o < 256 by omega), m_many (show b < 256 by omega), cb_eq, cb_ne, cb_lt, cb_ge, cb_gt, cb_le, cb_q, cb_qL, ri_s, rl_s, rr_s, rv_s, Option.bind_some, i10, cond_true, cond_false, show nI (popS b) ≤ nI (popS o) from nI_le (by omega) (by omega), if_true, nI_1, fin]
          exact two_n
      | succ d ih =>
        intro o mb cb p q ho hb
        obtain ⟨q', h1, h2⟩ := T o p q
        have po := pop_le o
        rw [bk_X5_leave_31, bk_X4_leave_40]
        simp only [cb_eq, cb_ne, cb_lt, cb_ge, cb_gt, cb_le, cb_q, cb_qL, ri_s, rl_s, rr_s, rv_s, Option.bind_some, i10, cond_true, cond_false, lfR, ldR0, hs, sh, nI_ge (show o < a + 1 by omega) (show a + 1 < 2 ^ 31 by omega), nI_ge (show o < a by omega) (show a < 2 ^ 31 by omega), if_false, k_bitCount (show o < 256 by omega), m_many (show o < 256 by omega), nI_1]
        rcases hb with ⟨rfl, rfl⟩ | ⟨b, hb, rfl, rfl⟩
        · have lt := pop_all ⟨n, by omega⟩ ⟨o, by omega⟩ (by show o < 2 ^ n - 1; omega)
          simp only [ea] at lt
          have := pop_le a
          simp only [m1_lt, if_true, bk_X5_leave_60, h1, cb_eq, cb_ne, cb_lt, cb_ge, cb_gt, cb_le, cb_q, cb_qL, ri_s, rl_s, rr_s, rv_s, Option.bind_some, i10, cond_true, cond_false, k_bitCount (show a < 256 by omega), show nI (popS o) < nI (popS a) from nI_lt lt (by omega), dfD0, dfD2, d_take, dh11, h2, nI_1]
          cases hidB (nI o) (upd s 96 (nI o)) n c k 0 with
          | true =>
            simp only [Bool.not_true, show ¬ b01 true = 0 from by decide, show b01 false = 0 from by decide, if_true, if_false]
            exact ih (o + 1) _ _ _ _ (by omega) (Or.inr ⟨o, by omega, rfl, rfl⟩)
          | false =>
            simp only [Bool.not_false, show ¬ b01 true = 0 from by decide, show b01 false = 0 from by decide, if_true, if_false]
            exact ih (o + 1) _ _ _ _ (by omega) (Or.inl ⟨rfl, rfl⟩)
        · have pb := pop_le b
          simp only [show ¬ nI b < 0 from Int32.not_lt.mpr (nI_pos' (by omega)), if_false, m_many (show b < 256 by omega), k_bitCount (show b < 256 by omega), cb_eq, cb_ne, cb_lt, cb_ge, cb_gt, cb_le, cb_q, cb_qL, ri_s, rl_s, rr_s, rv_s, Option.bind_some, i10, cond_true, cond_false]
          by_cases le : popS b ≤ popS o
          · simp only [show nI (popS b) ≤ nI (popS o) from nI_le le (by omega), if_true, show ¬ nI (popS o) < nI (popS b) from nI_nlt le (by omega), if_false]
            exact ih (o + 1) _ _ _ _ (by omega) (Or.inr ⟨b, hb, rfl, rfl⟩)
          · simp only [show ¬ nI (popS b) ≤ nI (popS o) from nI_ge (by omega) (by omega), if_false, show nI (popS o) < nI (popS b) from nI_lt (by omega) (by omega), if_true, bk_X5_leave_60, h1, cb_eq, cb_ne, cb_lt, cb_ge, cb_gt, cb_le, cb_q, cb_qL, ri_s, rl_s, rr_s, rv_s, Option.bind_some, i10, cond_true, cond_false, dfD0, dfD2, d_take, dh11, h2, nI_1]
            cases hidB (nI o) (upd s 96 (nI o)) n c k 0 with
            | true =>
              simp only [Bool.not_true, show ¬ b01 true = 0 from by decide, show b01 false = 0 from by decide, if_true, if_false]
              exact ih (o + 1) _ _ _ _ (by omega) (Or.inr ⟨o, by omega, rfl, rfl⟩)
            | false =>
              simp only [Bool.not_false, show ¬ b01 true = 0 from by decide, show b01 false = 0 from by decide, if_true, if_false]
              exact ih (o + 1) _ _ _ _ (by omega) (Or.inr ⟨b, hb, rfl, rfl⟩)
    have l0 := L a 0 (-1) (nI a) (A 4) (S 2) (by omega) (Or.inl ⟨rfl, rfl⟩)
    rw [upA_self, nI_0] at l0
    refine sim_two R ?_
    rw [ev_X5_leave _ _ _ _ (obR A s r), ev_X4_leave _ _ _ _ (obE S s (S 2) F rb)]
    simp only [cb_eq, cb_ne, cb_lt, cb_ge, cb_gt, cb_le, cb_q, cb_qL, ri_s, rl_s, rr_s, rv_s, Option.bind_some, i10, cond_true, cond_false, m_isScent, m_isIn, r_f0, c_isScent, c_isWithin, dfD0, dg7, hs, sh, nI_pred, d_f0]
    rw [if2y g, if2y g]
    exact l0
  · refine sim_f R (k := 0) (x := -1000001) (by decide) ?_ ?_
    · rw [ev_X5_leave _ _ _ _ (obR A s r)]
      simp only [cb_eq, cb_ne, cb_lt, cb_ge, cb_gt, cb_le, cb_q, cb_qL, ri_s, rl_s, rr_s, rv_s, Option.bind_some, i10, cond_true, cond_false, m_isScent, m_isIn, r_f0]
      exact if2n g _ _
    · rw [ev_X4_leave _ _ _ _ (obD S 0 s F rb)]
      simp only [cb_eq, cb_ne, cb_lt, cb_ge, cb_gt, cb_le, cb_q, cb_qL, ri_s, rl_s, rr_s, rv_s, Option.bind_some, i10, cond_true, cond_false, c_isScent, c_isWithin, c_f0]
      exact if2n g _ _
/-! odds -/
def tubB (s : Nat → Int32) (t : Nat) (b : Nat) : Bool := decide (s (54 + 4 * b + 1) = nI t)
theorem inS_B (s : Nat → Int32) (t : Nat) : ∀ n, inS s (nI t) n = setB (tubB s t) n
  | 0 => rfl
  | n + 1 => by
    rw [inS, setB, inS_B s t n]
    unfold tubB
    by_cases e : s (54 + 4 * n + 1) = nI t
    · simp [e]
    · simp [e]
def cntN (P : Nat → Bool) : Nat → Nat
  | 0 => 0
  | k + 1 => cntN P k + (if P k = true then 1 else 0)
theorem cntN_le (P : Nat → Bool) : ∀ k, cntN P k ≤ k
  | 0 => Nat.le_refl _
  | k + 1 => by
    have := cntN_le P k
    rw [cntN]
    split <;> omega
theorem cntN_1 (P Q : Nat → Bool) (u : Nat) (h : ∀ t, t < 10 → ¬ t = u → P t = Q t) : ∀ k, k ≤ 10 → cntN P k ≤ cntN Q k + (if u < k then 1 else 0)
  | 0, _ => by simp [cntN]
  | k + 1, hk => by
    have ih := cntN_1 P Q u h k (by omega)
    rw [cntN, cntN]
    by_cases e : k = u
    · subst e
      rw [if_neg (show ¬ k < k by omega)] at ih
      rw [if_pos (show k < k + 1 by omega)]
      have : (if P k = true then 1 else 0) ≤ 1 := by split <;> omega
      omega
    · rw [h k (by omega) e]
      by_cases e2 : u < k
      · rw [if_pos e2] at ih; rw [if_pos (show u < k + 1 by omega)]; omega
      · rw [if_neg e2] at ih; rw [if_neg (show ¬ u < k + 1 by omega)]; omega
def empB (s : Nat → Int32) (n t : Nat) : Bool := decide (∀ b, b < n → tubB s t b = false)
theorem emp_0 (s : Nat → Int32) {n : Nat} (hn : n ≤ 8) (t : Nat) : (inS s (nI t) n = 0) ↔ empB s n t = true := by
  rw [inS_B, setB_0 (by omega)]
  unfold empB
  rw [decide_eq_true_iff]
theorem emp_ge (s : Nat → Int32) : ∀ n, okN s n → n ≤ 8 → 10 ≤ cntN (empB s n) 10 + n
  | 0, _, _ => by
    have : ∀ k, cntN (empB s 0) k = k := by
      intro k
      induction k with
      | zero => rfl
      | succ k ih => rw [cntN, ih, if_pos (by unfold empB; simp)]
    rw [this]
    omega
  | n + 1, okn, hn => by
    have ih := emp_ge s n (fun b hb => okn b (by omega)) (by omega)
    obtain ⟨-, ⟨t1, t2⟩, -⟩ := okn n (by omega)
    have := cntN_1 (empB s n) (empB s (n + 1)) (tbS s n) (fun t ht hne => by
      have e : tubB s t n = false := by
        unfold tubB
        rw [decide_eq_false]
        rw [t1]
        intro q
        exact hne ((nI_eq (by omega) (by omega)).mp q).symm
      unfold empB
      congr 1
      refine propext ⟨fun f b hb => ?_, fun f b hb => f b (by omega)⟩
      by_cases hbn : b = n
      · subst hbn; exact e
      · exact f b (by omega)) 10 (Nat.le_refl _)
    rw [if_pos t2] at this
    omega
theorem r_empty (A : Nat → Nat → Int32) (s r : Nat → Int32) {n : Nat} (hn : n ≤ 8) (hs : s 0 = nI n) (x y : Int32) : rv_GO rc_X5_odds 35 [some (.ref 0), some (.int x), some (.int y), some (.int 0), some (.int 0), none, none, none, none, none, none, none, none, none] [] (mR A s r) = rv_GO rc_X5_odds 74 [none, some (.int x), some (.int y), some (.int (nI (cntN (empB s n) 10))), some (.long (Int32.toInt64 1)), none, some (.long (Int32.toInt64 1)), none, some (.int 0), none, none, none, none, none] [] (mR A s r) := by
  have st : ∀ k, k ≤ 10 → rv_GO rc_X5_odds 35 [some (.ref 0), some (.int x), some (.int y), some (.int 0), some (.int 0), none, none, none, none, none, none, none, none, none] [] (mR A s r) = rv_GO rc_X5_odds 35 [some (.ref 0), some (.int x), some (.int y), some (.int (nI (cntN (empB s n) k))), some (.int (nI k)), none, none, none, none, none, none, none, none, none] [] (mR A s r) := by
    intro k
    induction k with
    | zero => intro _; rfl
    | succ k ih =>
      intro hk
      rw [ih (by omega), bk_X5_odds_35]
      simp only [cb_eq, cb_ne, cb_lt, cb_ge, cb_gt, cb_le, cb_q, cb_qL, ri_s, rl_s, rr_s, rv_s, Option.bind_some, i10, cond_true, cond_false, show ¬ (10 : Int32) ≤ nI k from nI_ge (a := k) (b := 10) (by omega) (by decide), if_false, r_there A s r (nI k) hn hs, emp_0 s hn, nI_1, add_0, cntN]
      by_cases e : empB s n k = true
      · rw [if_pos e, if_pos e]
      · rw [if_neg e, if_neg e]
        rfl
  rw [st 10 (Nat.le_refl _), bk_X5_odds_35]
  simp only [cb_eq, cb_ne, cb_lt, cb_ge, cb_gt, cb_le, cb_q, cb_qL, ri_s, rl_s, rr_s, rv_s, Option.bind_some, i10, cond_true, cond_false, show (10 : Int32) ≤ nI 10 from by decide, if_true]
theorem k_emptyTubs (S : Nat → Nat → Int32) {j : Nat} (hj : j < 3) (s : Nat → Int32) (F : Nat → Nat → Int32) (rb : Nat) {n : Nat} (hn : n ≤ 8) (hs : s 0 = nI n) : rv_EV 34 [.ref (sp j)] (cR S j s F rb) = some (some (.int (nI (cntN (empB s n) 10))), cR S j s F rb) := by
  have st : ∀ k, k ≤ 10 → rv_GO rc_X2_emptyTubs 4 [some (.ref (sp j)), some (.int 0), some (.int 0)] [] (cR S j s F rb) = rv_GO rc_X2_emptyTubs 4 [some (.ref (sp j)), some (.int (nI (cntN (empB s n) k))), some (.int (nI k))] [] (cR S j s F rb) := by
    intro k
    induction k with
    | zero => intro _; rfl
    | succ k ih =>
      intro hk
      rw [ih (by omega), bk_X2_emptyTubs_4]
      simp only [cb_eq, cb_ne, cb_lt, cb_ge, cb_gt, cb_le, cb_q, cb_qL, ri_s, rl_s, rr_s, rv_s, Option.bind_some, i10, cond_true, cond_false, show ¬ (10 : Int32) ≤ nI k from nI_ge (a := k) (b := 10) (by omega) (by decide), if_false, k_whoIsIn S hj s F rb (nI k) hn hs, emp_0 s hn, nI_1, cntN]
      by_cases e : empB s n k = true
      · rw [if_pos e, if_pos e]
      · rw [if_neg e, if_neg e]
        rfl
  rw [ev_X2_emptyTubs _ _ (co S hj s F rb), st 10 (Nat.le_refl _), bk_X2_emptyTubs_4]
  simp only [cb_eq, cb_ne, cb_lt, cb_ge, cb_gt, cb_le, cb_q, cb_qL, ri_s, rl_s, rr_s, rv_s, Option.bind_some, i10, cond_true, cond_false, show (10 : Int32) ≤ nI 10 from by decide, if_true]
def parS (e : Nat) : Nat := match e with
  | 2 => 2
  | 4 => 2
  | 5 => 5
  | 6 => 2
  | 8 => 2
  | 10 => 10
  | _ => 1
def gcL : Nat → Int32 → Int32 → Int32 → Option Int32
  | 0, _, _, _ => none
  | f + 1, a, b, v => if v ≤ 1 then some 1 else if ¬ a - a / v * v = 0 then gcL f a b (v + (-1)) else if ¬ b - b / v * v = 0 then gcL f a b (v + (-1)) else some v
theorem gcL_ok : ∀ e : Fin 11, gcL 12 (nI e.val) 10 (rv_min (nI e.val) 10) = some (nI (parS e.val)) := by decide +kernel
theorem c_gc_L (a b : Int32) (w : rv_W) : ∀ (f : Nat) (v y : Int32), gcL f a b v = some y → rv_GO rc_X4_greatestCommonPart 6 [some (.int a), some (.int b), some (.int v)] [] w = some (some (.int y), w)
  | 0, _, _, h => by cases h
  | f + 1, v, y, h => by
    rw [gcL] at h
    rw [bk_X4_greatestCommonPart_6]
    simp only [cb_eq, cb_ne, cb_lt, cb_ge, cb_gt, cb_le, cb_q, cb_qL, ri_s, rl_s, rr_s, rv_s, Option.bind_some, i10, cond_true, cond_false]
    by_cases h1 : v ≤ 1
    · rw [if_pos h1] at h ⊢
      cases h; rfl
    · have h0 : ¬ v = 0 := fun q => h1 (by rw [q]; decide)
      rw [if_neg h1] at h ⊢
      rw [if_neg h0, if_neg h0]
      by_cases h2 : a - a / v * v = 0
      · rw [if_neg (fun q => q h2)] at h
        rw [if_pos h2]
        by_cases h3 : b - b / v * v = 0
        · rw [if_neg (fun q => q h3)] at h
          rw [if_pos h3]
          cases h; rfl
        · rw [if_pos h3] at h
          rw [if_neg h3]
          exact c_gc_L a b w f _ _ h
      · rw [if_pos h2] at h
        rw [if_neg h2]
        exact c_gc_L a b w f _ _ h
theorem c_gc {e : Nat} (he : e ≤ 10) (w : rv_W) : rv_EV 102 [.int (nI e), .int 10] w = some (some (.int (nI (parS e))), w) := by
  rw [ev_X4_greatestCommonPart]
  exact c_gc_L _ _ w 12 _ _ (gcL_ok ⟨e, by omega⟩)
def pwL (x : Int64) : Nat → Int64
  | 0 => Int32.toInt64 1
  | n + 1 => pwL x n * x
theorem r_pow (x y e : Int32) {n : Nat} (hx : x = nI n) (hn : n < 2 ^ 31) (w : rv_W) : rv_GO rc_X5_odds 74 [none, some (.int x), some (.int y), some (.int e), some (.long (Int32.toInt64 1)), none, some (.long (Int32.toInt64 1)), none, some (.int 0), none, none, none, none, none] [] w = rv_GO rc_X5_odds 109 [none, none, some (.int y), none, some (.long (pwL (Int32.toInt64 e) n)), none, some (.long (pwL (Int32.toInt64 10) n)), none, some (.long (pwL (Int32.toInt64 10) n)), none, some (.long (pwL (Int32.toInt64 e) n)), none, none, none] [] w := by
  subst hx
  have st : ∀ k, k ≤ n → rv_GO rc_X5_odds 74 [none, some (.int (nI n)), some (.int y), some (.int e), some (.long (Int32.toInt64 1)), none, some (.long (Int32.toInt64 1)), none, some (.int 0), none, none, none, none, none] [] w = rv_GO rc_X5_odds 74 [none, some (.int (nI n)), some (.int y), some (.int e), some (.long (pwL (Int32.toInt64 e) k)), none, some (.long (pwL (Int32.toInt64 10) k)), none, some (.int (nI k)), none, none, none, none, none] [] w := by
    intro k
    induction k with
    | zero => intro _; rfl
    | succ k ih =>
      intro hk
      rw [ih (by omega), bk_X5_odds_74]
      simp only [cb_eq, cb_ne, cb_lt, cb_ge, cb_gt, cb_le, cb_q, cb_qL, ri_s, rl_s, rr_s, rv_s, Option.bind_some, i10, cond_true, cond_false, nI_ge (show k < n by omega) hn, if_false, nI_1]
      rfl
  rw [st n (Nat.le_refl _), bk_X5_odds_74]
  simp only [cb_eq, cb_ne, cb_lt, cb_ge, cb_gt, cb_le, cb_q, cb_qL, ri_s, rl_s, rr_s, rv_s, Option.bind_some, i10, cond_true, cond_false, Int32.le_refl, if_true]
theorem c_pow (v : Int64) {n : Nat} (hn : n < 2 ^ 31) (w : rv_W) : rv_GO rc_X4_odds 62 [none, some (.int (nI n)), none, none, none, some (.long v), none, some (.long (Int32.toInt64 1)), none, some (.int 0)] [] w = some (some (.long (pwL v n)), w) := by
  have st : ∀ k, k ≤ n → rv_GO rc_X4_odds 62 [none, some (.int (nI n)), none, none, none, some (.long v), none, some (.long (Int32.toInt64 1)), none, some (.int 0)] [] w = rv_GO rc_X4_odds 62 [none, some (.int (nI n)), none, none, none, some (.long v), none, some (.long (pwL v k)), none, some (.int (nI k))] [] w := by
    intro k
    induction k with
    | zero => intro _; rfl
    | succ k ih =>
      intro hk
      rw [ih (by omega), bk_X4_odds_62]
      simp only [cb_eq, cb_ne, cb_lt, cb_ge, cb_gt, cb_le, cb_q, cb_qL, ri_s, rl_s, rr_s, rv_s, Option.bind_some, i10, cond_true, cond_false, nI_ge (show k < n by omega) hn, if_false, nI_1]
      rfl
  rw [st n (Nat.le_refl _), bk_X4_odds_62]
  simp only [cb_eq, cb_ne, cb_lt, cb_ge, cb_gt, cb_le, cb_q, cb_qL, ri_s, rl_s, rr_s, rv_s, Option.bind_some, i10, cond_true, cond_false, Int32.le_refl, if_true]
def eL : Nat → Int64 → Int64 → Option Int64
  | 0, _, _ => none
  | f + 1, a, b => if b = Int32.toInt64 0 then some a else eL f b (a - a / b * b)
theorem r_eu_L (y : Int32) (p q : Int64) (w : rv_W) : ∀ (f : Nat) (a b g : Int64), eL f a b = some g → ¬ g = 0 → rv_GO rc_X5_odds 109 [none, none, some (.int y), none, some (.long p), none, some (.long q), none, some (.long a), none, some (.long b), none, none, none] [] w = some (some (.long (if y = 0 then p / g else q / g)), w)
  | 0, _, _, _, h, _ => by cases h
  | f + 1, a, b, g, h, hg => by
    rw [eL] at h
    rw [bk_X5_odds_109]
    simp only [cb_eq, cb_ne, cb_lt, cb_ge, cb_gt, cb_le, cb_q, cb_qL, ri_s, rl_s, rr_s, rv_s, Option.bind_some, i10, cond_true, cond_false, lg_cmp_eq]
    by_cases h1 : b = Int32.toInt64 0
    · rw [if_pos h1] at h ⊢
      cases h
      rw [if_neg hg, if_neg hg]
      by_cases h2 : y = 0
      · rw [if_pos h2, if_pos h2]
      · rw [if_neg h2, if_neg h2]
    · rw [if_neg h1] at h ⊢
      have h0 : ¬ b = 0 := fun q => h1 (q.trans rfl)
      rw [if_neg h0]
      exact r_eu_L y p q w f _ _ _ h hg
def oddC (e n : Nat) : Bool := match eL 100 (pwL (Int32.toInt64 10) n) (pwL (Int32.toInt64 (nI e)) n) with
  | none => false
  | some g => decide (¬ g = 0) && (decide (pwL (Int32.toInt64 (nI e)) n / g = pwL (Int32.toInt64 (nI e / nI (parS e))) n) && decide (pwL (Int32.toInt64 10) n / g = pwL (Int32.toInt64 (10 / nI (parS e))) n))
theorem oddC_ok : ∀ e : Fin 11, ∀ n : Fin 19, 2 ≤ e.val → oddC e.val n.val = true := by decide +kernel
theorem odd_g {e n : Nat} (he : e ≤ 10) (he2 : 2 ≤ e) (hn : n ≤ 18) : ∃ g, eL 100 (pwL (Int32.toInt64 10) n) (pwL (Int32.toInt64 (nI e)) n) = some g ∧ ¬ g = 0 ∧ pwL (Int32.toInt64 (nI e)) n / g = pwL (Int32.toInt64 (nI e / nI (parS e))) n ∧ pwL (Int32.toInt64 10) n / g = pwL (Int32.toInt64 (10 / nI (parS e))) n := by
  have h := oddC_ok ⟨e, by omega⟩ ⟨n, by omega⟩ he2
  simp only [] at h
  unfold oddC at h
  cases hg : eL 100 (pwL (Int32.toInt64 10) n) (pwL (Int32.toInt64 (nI e)) n) with
  | none => rw [hg] at h; cases h
  | some g =>
    rw [hg] at h
    simp only [Bool.and_eq_true, decide_eq_true_iff] at h
    exact ⟨g, rfl, h.1, h.2.1, h.2.2⟩
theorem par_nz (e : Nat) : ¬ nI (parS e) = 0 := by
  unfold parS
  split <;> decide
theorem s_odds {h : Nat} {A : Nat → Nat → Int32} {r : Nat → Int32} {S F : Nat → Nat → Int32} {rb : Nat} {s : Nat → Int32} (R : Rel h A r S F s) (x y : Int32) : SimL h 170 78 [.int x, .int y] A r S F rb s := by
  by_cases g : (0 ≤ x ∧ x ≤ 18) ∧ (0 ≤ y ∧ y ≤ 1)
  · obtain ⟨n, hn, hs, ok, -⟩ := R.1.1
    obtain ⟨k, hk, rfl⟩ := ix_le (n := 18) (by decide) g.1.1 g.1.2
    have h10 := cntN_le (empB s n) 10
    have h2 := emp_ge s n ok hn
    obtain ⟨v, e1, e2, e3, e4⟩ := odd_g h10 (by omega) hk
    refine ⟨.long (if y = 0 then pwL (Int32.toInt64 (nI (cntN (empB s n) 10))) k / v else pwL (Int32.toInt64 10) k / v), A, r, S, F, rb, s, ?_, ?_, R, ⟨_, rfl⟩⟩
    · rw [ev_X5_odds _ _ _ _ (obR A s r)]
      simp only [cb_eq, cb_ne, cb_lt, cb_ge, cb_gt, cb_le, cb_q, cb_qL, ri_s, rl_s, rr_s, rv_s, Option.bind_some, i10, cond_true, cond_false, m_isIn, r_f0, r_empty A s r hn hs, r_pow _ _ _ (rfl : nI k = nI k) (show k < 2 ^ 31 by omega), r_eu_L _ _ _ _ 100 _ _ _ e1 e2]
      exact if2y g _ _
    · rw [ev_X4_odds _ _ _ _ (obD S 0 s F rb)]
      simp only [cb_eq, cb_ne, cb_lt, cb_ge, cb_gt, cb_le, cb_q, cb_qL, ri_s, rl_s, rr_s, rv_s, Option.bind_some, i10, cond_true, cond_false, lfD0, lfD1, lfD2, lfD3, lfD4, lfD5, lfD6, lgD7, lgD8, sgD7, sgD8, c_isWithin, c_f0, k_emptyTubs S h03 s F rb hn hs, c_gc h10, bk_X4_odds_50, par_nz, if_false, c_pow _ (show k < 2 ^ 31 by omega), e3, e4]
      refine (if2y g _ _).trans ?_
      by_cases h2 : y = 0
      · rw [if_pos h2, if_pos h2]
      · rw [if_neg h2, if_neg h2]
  · refine ⟨.long (Int32.toInt64 (-1000001)), fnd A 0, r, S, cfd F 0, rb, s, ?_, ?_, rel_fnd R (by decide), ⟨_, rfl⟩⟩
    · rw [ev_X5_odds _ _ _ _ (obR A s r)]
      simp only [cb_eq, cb_ne, cb_lt, cb_ge, cb_gt, cb_le, cb_q, cb_qL, ri_s, rl_s, rr_s, rv_s, Option.bind_some, i10, cond_true, cond_false, m_isIn, r_f0]
      exact if2n g _ _
    · rw [ev_X4_odds _ _ _ _ (obD S 0 s F rb)]
      simp only [cb_eq, cb_ne, cb_lt, cb_ge, cb_gt, cb_le, cb_q, cb_qL, ri_s, rl_s, rr_s, rv_s, Option.bind_some, i10, cond_true, cond_false, c_isWithin, c_f0]
      exact if2n g _ _
