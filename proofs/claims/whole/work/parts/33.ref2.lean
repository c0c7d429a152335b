/-! switches and literals -/
theorem sw0 {k : Nat} (hk : k < 1000) : (nI k = Int32.ofInt 0) = (k = 0) := by
  rw [show Int32.ofInt 0 = nI 0 from rfl]
  exact propext (nI_eq (by omega) (by decide))
theorem sw1 {k : Nat} (hk : k < 1000) : (nI k = Int32.ofInt 1) = (k = 1) := by
  rw [show Int32.ofInt 1 = nI 1 from rfl]
  exact propext (nI_eq (by omega) (by decide))
theorem sw2 {k : Nat} (hk : k < 1000) : (nI k = Int32.ofInt 2) = (k = 2) := by
  rw [show Int32.ofInt 2 = nI 2 from rfl]
  exact propext (nI_eq (by omega) (by decide))
theorem sw3 {k : Nat} (hk : k < 1000) : (nI k = Int32.ofInt 3) = (k = 3) := by
  rw [show Int32.ofInt 3 = nI 3 from rfl]
  exact propext (nI_eq (by omega) (by decide))
theorem sw4 {k : Nat} (hk : k < 1000) : (nI k = Int32.ofInt 4) = (k = 4) := by
  rw [show Int32.ofInt 4 = nI 4 from rfl]
  exact propext (nI_eq (by omega) (by decide))
theorem sw5 {k : Nat} (hk : k < 1000) : (nI k = Int32.ofInt 5) = (k = 5) := by
  rw [show Int32.ofInt 5 = nI 5 from rfl]
  exact propext (nI_eq (by omega) (by decide))
theorem sw6 {k : Nat} (hk : k < 1000) : (nI k = Int32.ofInt 6) = (k = 6) := by
  rw [show Int32.ofInt 6 = nI 6 from rfl]
  exact propext (nI_eq (by omega) (by decide))
theorem sw7 {k : Nat} (hk : k < 1000) : (nI k = Int32.ofInt 7) = (k = 7) := by
  rw [show Int32.ofInt 7 = nI 7 from rfl]
  exact propext (nI_eq (by omega) (by decide))
theorem sw8 {k : Nat} (hk : k < 1000) : (nI k = Int32.ofInt 8) = (k = 8) := by
  rw [show Int32.ofInt 8 = nI 8 from rfl]
  exact propext (nI_eq (by omega) (by decide))
theorem sw9 {k : Nat} (hk : k < 1000) : (nI k = Int32.ofInt 9) = (k = 9) := by
  rw [show Int32.ofInt 9 = nI 9 from rfl]
  exact propext (nI_eq (by omega) (by decide))
theorem sw10 {k : Nat} (hk : k < 1000) : (nI k = Int32.ofInt 10) = (k = 10) := by
  rw [show Int32.ofInt 10 = nI 10 from rfl]
  exact propext (nI_eq (by omega) (by decide))
theorem sw11 {k : Nat} (hk : k < 1000) : (nI k = Int32.ofInt 11) = (k = 11) := by
  rw [show Int32.ofInt 11 = nI 11 from rfl]
  exact propext (nI_eq (by omega) (by decide))
theorem sw12 {k : Nat} (hk : k < 1000) : (nI k = Int32.ofInt 12) = (k = 12) := by
  rw [show Int32.ofInt 12 = nI 12 from rfl]
  exact propext (nI_eq (by omega) (by decide))
theorem sw13 {k : Nat} (hk : k < 1000) : (nI k = Int32.ofInt 13) = (k = 13) := by
  rw [show Int32.ofInt 13 = nI 13 from rfl]
  exact propext (nI_eq (by omega) (by decide))
theorem sw14 {k : Nat} (hk : k < 1000) : (nI k = Int32.ofInt 14) = (k = 14) := by
  rw [show Int32.ofInt 14 = nI 14 from rfl]
  exact propext (nI_eq (by omega) (by decide))
theorem sw15 {k : Nat} (hk : k < 1000) : (nI k = Int32.ofInt 15) = (k = 15) := by
  rw [show Int32.ofInt 15 = nI 15 from rfl]
  exact propext (nI_eq (by omega) (by decide))
theorem sw16 {k : Nat} (hk : k < 1000) : (nI k = Int32.ofInt 16) = (k = 16) := by
  rw [show Int32.ofInt 16 = nI 16 from rfl]
  exact propext (nI_eq (by omega) (by decide))
theorem sw17 {k : Nat} (hk : k < 1000) : (nI k = Int32.ofInt 17) = (k = 17) := by
  rw [show Int32.ofInt 17 = nI 17 from rfl]
  exact propext (nI_eq (by omega) (by decide))
theorem m_its0 (A : Nat → Nat → Int32) (r : Nat → Int32) {b : Nat} (hb : b < 8) : rv_EV 114 [.ref 0, .int (nI b), .int 0] (mM A r) = some (some (.int (A 1 (54 + 4 * b + 0))), mM A r) := m_its A r hb (k := 0) (by decide)
theorem m_its1 (A : Nat → Nat → Int32) (r : Nat → Int32) {b : Nat} (hb : b < 8) : rv_EV 114 [.ref 0, .int (nI b), .int 1] (mM A r) = some (some (.int (A 1 (54 + 4 * b + 1))), mM A r) := m_its A r hb (k := 1) (by decide)
theorem m_its2 (A : Nat → Nat → Int32) (r : Nat → Int32) {b : Nat} (hb : b < 8) : rv_EV 114 [.ref 0, .int (nI b), .int 2] (mM A r) = some (some (.int (A 1 (54 + 4 * b + 2))), mM A r) := m_its A r hb (k := 2) (by decide)
theorem m_its3 (A : Nat → Nat → Int32) (r : Nat → Int32) {b : Nat} (hb : b < 8) : rv_EV 114 [.ref 0, .int (nI b), .int 3] (mM A r) = some (some (.int (A 1 (54 + 4 * b + 3))), mM A r) := m_its A r hb (k := 3) (by decide)

theorem m_adds (A : Nat → Nat → Int32) (r : Nat → Int32) {b : Nat} (hb : b < 8) (ok : okB (A 1) b) : rv_EV 128 [.ref 0, .int (nI b)] (mM A r) = some (some (.int (addS (A 1) b)), mM A r) := by
  obtain ⟨⟨k1, k2⟩, ⟨t1, t2⟩, ⟨o1, o2⟩, ⟨n1, n2⟩⟩ := ok
  rw [ev_X5_adds _ _ _ (obM A r), m_its0 A r hb, k1]
  unfold addS
  generalize kdS (A 1) b = k at k2 ⊢
  have hk : k < 1000 := by omega
  simp only [cb_eq, cb_ne, cb_lt, cb_ge, cb_gt, cb_le, cb_q, cb_qL, ri_s, rl_s, rr_s, rv_s, Option.bind_some, i10, cond_true, cond_false, lfM0, lfM1, lfM2, lfM3, lfM5, lfM6, lfM8, lfM9, lfM10, lgM4, sgM4, lgM7, sgM7, lgM11, sgM11, lgM12, sgM12, lgM13, sgM13, lgM14, sgM14, lgM15, sgM15, sw1 hk, sw2 hk, sw3 hk, sw4 hk, sw5 hk, sw6 hk, m_its1 A r hb, m_its2 A r hb, m_its3 A r hb, n1, t1, o1, m_placeOf, c4_, m_many (show knS (A 1) b < 256 by omega), ldM1 A r (show 14 + 4 * tbS (A 1) b + owS (A 1) b < 96 by omega), ldM1 A r (show 4 + tbS (A 1) b < 96 by omega)]
  rcases (show k = 0 ∨ k = 1 ∨ k = 2 ∨ k = 3 ∨ k = 4 ∨ k = 5 ∨ k = 6 by omega) with rfl | rfl | rfl | rfl | rfl | rfl | rfl
  case inr.inr.inr.inr.inr.inl =>
    by_cases h : A 1 (14 + 4 * tbS (A 1) b + owS (A 1) b) = 0 <;> simp [h]
  all_goals simp
theorem m_cools (A : Nat → Nat → Int32) (r : Nat → Int32) {b : Nat} (hb : b < 8) (ok : okB (A 1) b) : rv_EV 129 [.ref 0, .int (nI b)] (mM A r) = some (some (.int (coolS (kdS (A 1) b))), mM A r) := by
  obtain ⟨⟨k1, k2⟩, -⟩ := ok
  rw [ev_X5_cools _ _ _ (obM A r), m_its0 A r hb, k1]
  generalize kdS (A 1) b = k at k2 ⊢
  have hk : k < 1000 := by omega
  simp only [cb_eq, cb_ne, cb_lt, cb_ge, cb_gt, cb_le, cb_q, cb_qL, ri_s, rl_s, rr_s, rv_s, Option.bind_some, i10, cond_true, cond_false, sw1 hk, sw2 hk, sw3 hk, sw4 hk, sw5 hk, sw6 hk]
  rcases (show k = 0 ∨ k = 1 ∨ k = 2 ∨ k = 3 ∨ k = 4 ∨ k = 5 ∨ k = 6 by omega) with rfl | rfl | rfl | rfl | rfl | rfl | rfl <;> simp [coolS]
theorem m_nose (A : Nat → Nat → Int32) (r : Nat → Int32) {b : Nat} (hb : b < 8) (ok : okB (A 1) b) : rv_EV 130 [.ref 0, .int (nI b)] (mM A r) = some (some (.int (noseS (kdS (A 1) b))), mM A r) := by
  obtain ⟨⟨k1, k2⟩, -⟩ := ok
  rw [ev_X5_nose _ _ _ (obM A r), m_its0 A r hb, k1]
  generalize kdS (A 1) b = k at k2 ⊢
  have hk : k < 1000 := by omega
  simp only [cb_eq, cb_ne, cb_lt, cb_ge, cb_gt, cb_le, cb_q, cb_qL, ri_s, rl_s, rr_s, rv_s, Option.bind_some, i10, cond_true, cond_false, sw2 hk, sw3 hk, sw4 hk, sw5 hk, sw6 hk]
  rcases (show k = 0 ∨ k = 1 ∨ k = 2 ∨ k = 3 ∨ k = 4 ∨ k = 5 ∨ k = 6 by omega) with rfl | rfl | rfl | rfl | rfl | rfl | rfl <;> simp [noseS]
theorem or_0 (x : Int32) : x ||| 0 = x := by simp
theorem m_smells (A : Nat → Nat → Int32) (r : Nat → Int32) {b : Nat} (hb : b < 8) (ok : okB (A 1) b) : rv_EV 131 [.ref 0, .int (nI b)] (mM A r) = some (some (.int (smlS (A 1) b 4)), mM A r) := by
  have hn := m_nose A r hb ok
  obtain ⟨⟨k1, k2⟩, ⟨t1, t2⟩, ⟨o1, o2⟩, ⟨n1, n2⟩⟩ := ok
  have st : ∀ (c : Nat), c < 4 → rv_GO rc_X5_smells 19 [some (.ref 0), some (.int (nI b)), some (.int (nI (tbS (A 1) b))), some (.int (allS (A 1) (tbS (A 1) b))), some (.int (smlS (A 1) b c)), some (.int (nI c)), none] [] (mM A r) = rv_GO rc_X5_smells 19 [some (.ref 0), some (.int (nI b)), some (.int (nI (tbS (A 1) b))), some (.int (allS (A 1) (tbS (A 1) b))), some (.int (smlS (A 1) b (c + 1))), some (.int (nI (c + 1))), none] [] (mM A r) := by
    intro c hc
    rw [bk_X5_smells_19]
    simp only [cb_eq, cb_ne, cb_lt, cb_ge, cb_gt, cb_le, cb_q, cb_qL, ri_s, rl_s, rr_s, rv_s, Option.bind_some, i10, cond_true, cond_false, lfM0, lfM1, lfM2, lfM3, lfM5, lfM6, lfM8, lfM9, lfM10, lgM4, sgM4, lgM7, sgM7, lgM11, sgM11, lgM12, sgM12, lgM13, sgM13, lgM14, sgM14, lgM15, sgM15, m_placeOf, ldM1 A r (show 14 + 4 * tbS (A 1) b + c < 96 by omega), m_its2 A r hb, o1, hn, nI_1, show ¬ (4 : Int32) ≤ nI c from nI_ge (a := c) (b := 4) hc (by decide), if_false, nI_eq (show c < 2 ^ 31 by omega) (show owS (A 1) b < 2 ^ 31 by omega), d8_0, or_0]
    rw [smlS]
    by_cases h1 : c = owS (A 1) b
    · rw [if_pos h1, if_neg (fun q => q.1 h1), or_0]
    · rw [if_neg h1]
      by_cases h2 : A 1 (14 + 4 * tbS (A 1) b + c) < noseS (kdS (A 1) b) + (allS (A 1) (tbS (A 1) b) - A 1 (14 + 4 * tbS (A 1) b + c)) / 8
      · rw [if_pos h2, if_neg (fun q => absurd h2 (Int32.not_lt.mpr q.2)), or_0]
      · rw [if_neg h2, if_pos ⟨h1, Int32.not_lt.mp h2⟩]
  rw [ev_X5_smells _ _ _ (obM A r), m_its1 A r hb, t1]
  simp only [cb_eq, cb_ne, cb_lt, cb_ge, cb_gt, cb_le, cb_q, cb_qL, ri_s, rl_s, rr_s, rv_s, Option.bind_some, i10, cond_true, cond_false, m_allIn A r t2]
  have s0 := st 0 (by decide)
  rw [show smlS (A 1) b 0 = 0 from rfl, nI_0] at s0
  rw [s0, st 1 (by decide), st 2 (by decide), st 3 (by decide), bk_X5_smells_19]
  simp only [cb_eq, cb_ne, cb_lt, cb_ge, cb_gt, cb_le, cb_q, cb_qL, ri_s, rl_s, rr_s, rv_s, Option.bind_some, i10, cond_true, cond_false, show (4 : Int32) ≤ nI (3 + 1) from by decide, if_true]

