/-! THE REFERENCE, its small methods -/
theorem i10 (p : Prop) [Decidable p] : ((if p then (1 : Int32) else 0) = 0) = ¬ p := by
  by_cases h : p <;> simp [h]
theorem ix_rg {x : Int32} {n : Nat} (hn : n < 2 ^ 31) (h0 : 0 ≤ x) (h1 : x < nI n) : ∃ t : Nat, t < n ∧ x = nI t := by
  rcases pk_ix x hn with h | h | h
  · exact absurd h (Int32.not_lt.mpr h0)
  · exact absurd h1 (Int32.not_lt.mpr h)
  · exact h
theorem m_isIn (x a b : Int32) (w : rv_W) : rv_EV 107 [.long x.toInt64, .long a.toInt64, .long b.toInt64] w = some (some (.int (if a ≤ x ∧ x ≤ b then 1 else 0)), w) := by
  rw [ev_X5_isIn]
  simp only [cb_eq, cb_ne, cb_lt, cb_ge, cb_gt, cb_le, cb_q, cb_qL, ri_s, rl_s, rr_s, rv_s, Option.bind_some, i10, cond_true, cond_false, lg_cmp_lt, lg_cmp_gt]
  have e : ∀ y z : Int32, y.toInt64 < z.toInt64 ↔ y < z := fun y z => by
    rw [Int64.lt_iff_toInt_lt, Int32.lt_iff_toInt_lt, Int32.toInt_toInt64, Int32.toInt_toInt64]
  simp only [e]
  by_cases h1 : x < a
  · rw [if_pos h1, if_neg (fun q => absurd h1 (Int32.not_lt.mpr q.1))]
  · rw [if_neg h1]
    by_cases h2 : b < x
    · rw [if_pos h2, if_neg (fun q => absurd h2 (Int32.not_lt.mpr q.2))]
    · rw [if_neg h2, if_pos ⟨Int32.not_lt.mp h1, Int32.not_lt.mp h2⟩]
theorem m_isTub (x : Int32) (w : rv_W) : rv_EV 111 [.int x] w = some (some (.int (if 0 ≤ x ∧ x < 10 then 1 else 0)), w) := by
  rw [ev_X5_isTub]
  simp only [cb_eq, cb_ne, cb_lt, cb_ge, cb_gt, cb_le, cb_q, cb_qL, ri_s, rl_s, rr_s, rv_s, Option.bind_some, i10, cond_true, cond_false]
  by_cases h1 : x < 0
  · rw [if_pos h1, if_neg (fun q => absurd h1 (Int32.not_lt.mpr q.1))]
  · rw [if_neg h1]
    by_cases h2 : 10 ≤ x
    · rw [if_pos h2, if_neg (fun q => absurd q.2 (Int32.not_lt.mpr h2))]
    · rw [if_neg h2, if_pos ⟨Int32.not_lt.mp h1, Int32.not_le.mp h2⟩]
theorem m_isScent (x : Int32) (w : rv_W) : rv_EV 112 [.int x] w = some (some (.int (if 0 ≤ x ∧ x < 4 then 1 else 0)), w) := by
  rw [ev_X5_isScent]
  simp only [cb_eq, cb_ne, cb_lt, cb_ge, cb_gt, cb_le, cb_q, cb_qL, ri_s, rl_s, rr_s, rv_s, Option.bind_some, i10, cond_true, cond_false]
  by_cases h1 : x < 0
  · rw [if_pos h1, if_neg (fun q => absurd h1 (Int32.not_lt.mpr q.1))]
  · rw [if_neg h1]
    by_cases h2 : 4 ≤ x
    · rw [if_pos h2, if_neg (fun q => absurd q.2 (Int32.not_lt.mpr h2))]
    · rw [if_neg h2, if_pos ⟨Int32.not_lt.mp h1, Int32.not_le.mp h2⟩]
theorem m_isSheet (x : Int32) (w : rv_W) : rv_EV 197 [.int x] w = some (some (.int (if 0 ≤ x ∧ x < 4 then 1 else 0)), w) := by
  rw [ev_X5_isSheet]
  simp only [cb_eq, cb_ne, cb_lt, cb_ge, cb_gt, cb_le, cb_q, cb_qL, ri_s, rl_s, rr_s, rv_s, Option.bind_some, i10, cond_true, cond_false]
  by_cases h1 : x < 0
  · rw [if_pos h1, if_neg (fun q => absurd h1 (Int32.not_lt.mpr q.1))]
  · rw [if_neg h1]
    by_cases h2 : 4 ≤ x
    · rw [if_pos h2, if_neg (fun q => absurd q.2 (Int32.not_lt.mpr h2))]
    · rw [if_neg h2, if_pos ⟨Int32.not_lt.mp h1, Int32.not_le.mp h2⟩]
/-- a finding is counted -/
def fnd (A : Nat → Nat → Int32) (k : Nat) : Nat → Nat → Int32 := upB (upB A 5 0 (A 5 0 + 1)) 5 (k + 1) (A 5 (k + 1) + 1)
theorem m_finds (A : Nat → Nat → Int32) (r : Nat → Int32) {k : Nat} (hk : k < 7) {x : Int32} (hx : ((-1000001) - x) + 1 = nI (k + 1)) : rv_EV 108 [.ref 0, .int x] (mM A r) = some (some (.int x), mM (fnd A k) r) := by
  rw [ev_X5_finds _ _ _ (obM A r)]
  have h1 := ldM5 A r (j := 0) (by decide)
  have h2 := stM5 A r (j := 0) (by decide) (A 5 0 + 1)
  have h3 := ldM5 (upB A 5 0 (A 5 0 + 1)) r (j := k + 1) (by omega)
  have h4 := stM5 (upB A 5 0 (A 5 0 + 1)) r (j := k + 1) (by omega) (A 5 (k + 1) + 1)
  rw [nI_0] at h1 h2
  have e : upB A 5 0 (A 5 0 + 1) 5 (k + 1) = A 5 (k + 1) := by simp [upB, upA, upd]
  rw [e] at h3
  simp only [cb_eq, cb_ne, cb_lt, cb_ge, cb_gt, cb_le, cb_q, cb_qL, ri_s, rl_s, rr_s, rv_s, Option.bind_some, i10, cond_true, cond_false, lfM0, lfM1, lfM2, lfM3, lfM5, lfM6, lfM8, lfM9, lfM10, lgM4, sgM4, lgM7, sgM7, lgM11, sgM11, lgM12, sgM12, lgM13, sgM13, lgM14, sgM14, lgM15, sgM15, h1, h2, hx, h3, h4]
  rfl
theorem m_f0 (A : Nat → Nat → Int32) (r : Nat → Int32) : rv_EV 108 [.ref 0, .int (-1000001)] (mM A r) = some (some (.int (-1000001)), mM (fnd A 0) r) := m_finds A r (by decide) (by decide)
theorem m_f1 (A : Nat → Nat → Int32) (r : Nat → Int32) : rv_EV 108 [.ref 0, .int (-1000002)] (mM A r) = some (some (.int (-1000002)), mM (fnd A 1) r) := m_finds A r (by decide) (by decide)
theorem m_f2 (A : Nat → Nat → Int32) (r : Nat → Int32) : rv_EV 108 [.ref 0, .int (-1000003)] (mM A r) = some (some (.int (-1000003)), mM (fnd A 2) r) := m_finds A r (by decide) (by decide)
theorem m_f3 (A : Nat → Nat → Int32) (r : Nat → Int32) : rv_EV 108 [.ref 0, .int (-1000004)] (mM A r) = some (some (.int (-1000004)), mM (fnd A 3) r) := m_finds A r (by decide) (by decide)
theorem m_f4 (A : Nat → Nat → Int32) (r : Nat → Int32) : rv_EV 108 [.ref 0, .int (-1000005)] (mM A r) = some (some (.int (-1000005)), mM (fnd A 4) r) := m_finds A r (by decide) (by decide)
theorem m_f5 (A : Nat → Nat → Int32) (r : Nat → Int32) : rv_EV 108 [.ref 0, .int (-1000006)] (mM A r) = some (some (.int (-1000006)), mM (fnd A 5) r) := m_finds A r (by decide) (by decide)
theorem m_f6 (A : Nat → Nat → Int32) (r : Nat → Int32) : rv_EV 108 [.ref 0, .int (-1000007)] (mM A r) = some (some (.int (-1000007)), mM (fnd A 6) r) := m_finds A r (by decide) (by decide)
theorem m_becomes (A : Nat → Nat → Int32) (r : Nat → Int32) {j : Nat} (h : j < 96) (v : Int32) : rv_EV 109 [.ref 0, .int (nI j), .int v] (mM A r) = some (some (.int (A 1 j)), mM (upB A 1 j v) r) := by
  rw [ev_X5_becomes _ _ _ _ (obM A r)]
  simp only [cb_eq, cb_ne, cb_lt, cb_ge, cb_gt, cb_le, cb_q, cb_qL, ri_s, rl_s, rr_s, rv_s, Option.bind_some, i10, cond_true, cond_false, lfM0, lfM1, lfM2, lfM3, lfM5, lfM6, lfM8, lfM9, lfM10, lgM4, sgM4, lgM7, sgM7, lgM11, sgM11, lgM12, sgM12, lgM13, sgM13, lgM14, sgM14, lgM15, sgM15, ldM1 A r h, stM1 A r h]
/-! places -/
theorem c4_ (t : Nat) : 4 + nI t = nI (4 + t) := nI_add 4 t
theorem c14_ (t c : Nat) : (14 + (4 * nI t)) + nI c = nI (14 + 4 * t + c) := by
  rw [show (4 : Int32) = nI 4 from rfl, show (14 : Int32) = nI 14 from rfl, pk_mul, nI_add, nI_add]
theorem c54_ (b k : Nat) : (54 + (4 * nI b)) + nI k = nI (54 + 4 * b + k) := by
  rw [show (4 : Int32) = nI 4 from rfl, show (54 : Int32) = nI 54 from rfl, pk_mul, nI_add, nI_add]
theorem c54a (b : Nat) : 54 + (4 * nI b) = nI (54 + 4 * b) := by
  rw [show (4 : Int32) = nI 4 from rfl, show (54 : Int32) = nI 54 from rfl, pk_mul, nI_add]
theorem m_placeOf (t c : Nat) (w : rv_W) : rv_EV 118 [.int (nI t), .int (nI c)] w = some (some (.int (nI (14 + 4 * t + c))), w) := by
  rw [ev_X5_placeOf, c14_]
theorem m_its (A : Nat → Nat → Int32) (r : Nat → Int32) {b k : Nat} (hb : b < 8) (hk : k < 4) : rv_EV 114 [.ref 0, .int (nI b), .int (nI k)] (mM A r) = some (some (.int (A 1 (54 + 4 * b + k))), mM A r) := by
  rw [ev_X5_its _ _ _ _ (obM A r), c54_]
  simp only [cb_eq, cb_ne, cb_lt, cb_ge, cb_gt, cb_le, cb_q, cb_qL, ri_s, rl_s, rr_s, rv_s, Option.bind_some, i10, cond_true, cond_false, lfM0, lfM1, lfM2, lfM3, lfM5, lfM6, lfM8, lfM9, lfM10, lgM4, sgM4, lgM7, sgM7, lgM11, sgM11, lgM12, sgM12, lgM13, sgM13, lgM14, sgM14, lgM15, sgM15, ldM1 A r (show 54 + 4 * b + k < 96 by omega)]
theorem m_isBather (A : Nat → Nat → Int32) (r : Nat → Int32) (x : Int32) : rv_EV 113 [.ref 0, .int x] (mM A r) = some (some (.int (if 0 ≤ x ∧ x < A 1 0 then 1 else 0)), mM A r) := by
  have h1 := ldM1 A r (j := 0) (by decide)
  rw [nI_0] at h1
  rw [ev_X5_isBather _ _ _ (obM A r)]
  simp only [cb_eq, cb_ne, cb_lt, cb_ge, cb_gt, cb_le, cb_q, cb_qL, ri_s, rl_s, rr_s, rv_s, Option.bind_some, i10, cond_true, cond_false, lfM0, lfM1, lfM2, lfM3, lfM5, lfM6, lfM8, lfM9, lfM10, lgM4, sgM4, lgM7, sgM7, lgM11, sgM11, lgM12, sgM12, lgM13, sgM13, lgM14, sgM14, lgM15, sgM15, h1]
  by_cases h1 : x < 0
  · rw [if_pos h1, if_neg (fun q => absurd h1 (Int32.not_lt.mpr q.1))]
  · rw [if_neg h1]
    by_cases h2 : A 1 0 ≤ x
    · rw [if_pos h2, if_neg (fun q => absurd q.2 (Int32.not_lt.mpr h2))]
    · rw [if_neg h2, if_pos ⟨Int32.not_lt.mp h1, Int32.not_le.mp h2⟩]
theorem m_orNone (A : Nat → Nat → Int32) (r : Nat → Int32) (x : Int32) : rv_EV 115 [.ref 0, .int x] (mM A r) = if 0 ≤ x then some (some (.int x), mM A r) else some (some (.int (-1000004)), mM (fnd A 3) r) := by
  rw [ev_X5_orNone _ _ _ (obM A r)]
  simp only [cb_eq, cb_ne, cb_lt, cb_ge, cb_gt, cb_le, cb_q, cb_qL, ri_s, rl_s, rr_s, rv_s, Option.bind_some, i10, cond_true, cond_false, m_f3]
theorem m_warm (A : Nat → Nat → Int32) (r : Nat → Int32) (x y : Int32) : rv_EV 117 [.ref 0, .int x, .int y] (mM A r) =
    if (0 ≤ x ∧ x < 10) ∧ (0 ≤ y ∧ y ≤ 99) then some (some (.int (A 1 (4 + x.toNatClampNeg))), mM (upB A 1 (4 + x.toNatClampNeg) y) r) else some (some (.int (-1000001)), mM (fnd A 0) r) := by
  rw [ev_X5_warm _ _ _ _ (obM A r), m_isTub]
  simp only [cb_eq, cb_ne, cb_lt, cb_ge, cb_gt, cb_le, cb_q, cb_qL, ri_s, rl_s, rr_s, rv_s, Option.bind_some, i10, cond_true, cond_false, m_f0, m_isIn]
  by_cases h1 : 0 ≤ x ∧ x < 10
  · by_cases h2 : 0 ≤ y ∧ y ≤ 99
    · obtain ⟨t, ht, rfl⟩ := ix_rg (n := 10) (by decide) h1.1 h1.2
      simp only [h1, h2, not_true_eq_false, if_false, and_self, if_true, c4_, m_becomes A r (show 4 + t < 96 by omega), cb_eq, cb_ne, cb_lt, cb_ge, cb_gt, cb_le, cb_q, cb_qL, ri_s, rl_s, rr_s, rv_s, Option.bind_some, i10, cond_true, cond_false, nI_clamp (show t < 2 ^ 31 by omega)]
    · simp only [h1, h2, not_true_eq_false, not_false_eq_true, if_false, if_true, and_false, and_self]
  · simp only [h1, not_false_eq_true, if_true, false_and, if_false]
/-! loops over the four scents -/
def allS (s : Nat → Int32) (t : Nat) : Int32 := 0 + s (14 + 4 * t + 0) + s (14 + 4 * t + 1) + s (14 + 4 * t + 2) + s (14 + 4 * t + 3)
theorem m_allIn (A : Nat → Nat → Int32) (r : Nat → Int32) {t : Nat} (ht : t < 10) : rv_EV 120 [.ref 0, .int (nI t)] (mM A r) = some (some (.int (allS (A 1) t)), mM A r) := by
  have st : ∀ (c : Nat) (v : Int32), c < 4 → rv_GO rc_X5_allIn 4 [some (.ref 0), some (.int (nI t)), some (.int v), some (.int (nI c))] [] (mM A r) = rv_GO rc_X5_allIn 4 [some (.ref 0), some (.int (nI t)), some (.int (v + A 1 (14 + 4 * t + c))), some (.int (nI (c + 1)))] [] (mM A r) := by
    intro c v hc
    rw [bk_X5_allIn_4]
    simp only [cb_eq, cb_ne, cb_lt, cb_ge, cb_gt, cb_le, cb_q, cb_qL, ri_s, rl_s, rr_s, rv_s, Option.bind_some, i10, cond_true, cond_false, lfM0, lfM1, lfM2, lfM3, lfM5, lfM6, lfM8, lfM9, lfM10, lgM4, sgM4, lgM7, sgM7, lgM11, sgM11, lgM12, sgM12, lgM13, sgM13, lgM14, sgM14, lgM15, sgM15, m_placeOf, ldM1 A r (show 14 + 4 * t + c < 96 by omega), nI_1, show ¬ (4 : Int32) ≤ nI c from nI_ge (a := c) (b := 4) hc (by decide), if_false]
  rw [ev_X5_allIn _ _ _ (obM A r)]
  rw [show (0 : Int32) = nI 0 from rfl, st 0 _ (by decide), st 1 _ (by decide), st 2 _ (by decide), st 3 _ (by decide), bk_X5_allIn_4]
  simp only [cb_eq, cb_ne, cb_lt, cb_ge, cb_gt, cb_le, cb_q, cb_qL, ri_s, rl_s, rr_s, rv_s, Option.bind_some, i10, cond_true, cond_false, show (4 : Int32) ≤ nI (3 + 1) from by decide, if_true]
  rfl
