/-! THE REFERENCE, an hour -/
def mR (A : Nat → Nat → Int32) (s : Nat → Int32) (r : Nat → Int32) : rv_W := mM (upA A 1 s) r
theorem upA_upA (A : Nat → Nat → Int32) (p : Nat) (g h : Nat → Int32) : upA (upA A p g) p h = upA A p h := by
  funext q; by_cases e : q = p <;> simp [upA, e]
theorem upA_self (A : Nat → Nat → Int32) (p : Nat) : upA A p (A p) = A := by
  funext q; by_cases e : q = p <;> simp [upA, e]
theorem mR_self (A : Nat → Nat → Int32) (r : Nat → Int32) : mR A (A 1) r = mM A r := by unfold mR; rw [upA_self]
theorem mR_congr (A : Nat → Nat → Int32) (r : Nat → Int32) {s q : Nat → Int32} (h : ∀ j, j < 96 → s j = q j) : mR A s r = mR A q r :=
  mM_congr r h (fun _ _ => rfl) (fun _ _ => rfl) (fun _ _ => rfl) (fun _ _ => rfl) (fun _ _ => rfl) (fun _ _ => rfl) (fun _ _ => rfl) (fun _ _ => rfl)
theorem ldR (A : Nat → Nat → Int32) (s r : Nat → Int32) {j : Nat} (h : j < 96) : rv_ldI (mR A s r) 1 (nI j) = some (s j) := ldM1 (upA A 1 s) r h
theorem stR (A : Nat → Nat → Int32) (s r : Nat → Int32) {j : Nat} (h : j < 96) (x : Int32) : rv_stI (mR A s r) 1 (nI j) x = some (mR A (upd s j x) r) := by
  have e := stM1 (upA A 1 s) r h x
  unfold mR
  rw [e]
  unfold upB
  rw [upA_upA]
  rfl
theorem ldR0 (A : Nat → Nat → Int32) (s r : Nat → Int32) : rv_ldI (mR A s r) 1 0 = some (s 0) := ldR A s r (j := 0) (by decide)
theorem ldR1 (A : Nat → Nat → Int32) (s r : Nat → Int32) : rv_ldI (mR A s r) 1 1 = some (s 1) := ldR A s r (j := 1) (by decide)
theorem ldR2 (A : Nat → Nat → Int32) (s r : Nat → Int32) : rv_ldI (mR A s r) 1 2 = some (s 2) := ldR A s r (j := 2) (by decide)
theorem lfR (A : Nat → Nat → Int32) (s r : Nat → Int32) : rv_ldFR (mR A s r) 0 4 0 = some 1 := rfl
theorem obR (A : Nat → Nat → Int32) (s r : Nat → Int32) : (rv_obj (mR A s r) 0 4).isSome = true := rfl
theorem r_its0 (A : Nat → Nat → Int32) (s r : Nat → Int32) {b : Nat} (hb : b < 8) : rv_EV 114 [.ref 0, .int (nI b), .int 0] (mR A s r) = some (some (.int (s (54 + 4 * b + 0))), mR A s r) := m_its0 (upA A 1 s) r hb
theorem r_its1 (A : Nat → Nat → Int32) (s r : Nat → Int32) {b : Nat} (hb : b < 8) : rv_EV 114 [.ref 0, .int (nI b), .int 1] (mR A s r) = some (some (.int (s (54 + 4 * b + 1))), mR A s r) := m_its1 (upA A 1 s) r hb
theorem r_its2 (A : Nat → Nat → Int32) (s r : Nat → Int32) {b : Nat} (hb : b < 8) : rv_EV 114 [.ref 0, .int (nI b), .int 2] (mR A s r) = some (some (.int (s (54 + 4 * b + 2))), mR A s r) := m_its2 (upA A 1 s) r hb
theorem r_its3 (A : Nat → Nat → Int32) (s r : Nat → Int32) {b : Nat} (hb : b < 8) : rv_EV 114 [.ref 0, .int (nI b), .int 3] (mR A s r) = some (some (.int (s (54 + 4 * b + 3))), mR A s r) := m_its3 (upA A 1 s) r hb
theorem r_adds (A : Nat → Nat → Int32) (s r : Nat → Int32) {b : Nat} (hb : b < 8) (ok : okB s b) : rv_EV 128 [.ref 0, .int (nI b)] (mR A s r) = some (some (.int (addS s b)), mR A s r) := m_adds (upA A 1 s) r hb ok
theorem r_cools (A : Nat → Nat → Int32) (s r : Nat → Int32) {b : Nat} (hb : b < 8) (ok : okB s b) : rv_EV 129 [.ref 0, .int (nI b)] (mR A s r) = some (some (.int (coolS (kdS s b))), mR A s r) := m_cools (upA A 1 s) r hb ok
theorem r_smells (A : Nat → Nat → Int32) (s r : Nat → Int32) {b : Nat} (hb : b < 8) (ok : okB s b) : rv_EV 131 [.ref 0, .int (nI b)] (mR A s r) = some (some (.int (smlS s b 4)), mR A s r) := m_smells (upA A 1 s) r hb ok
/-! water -/
def innS (q : Nat → Int32) (t c : Nat) : Nat → Int32 := fun i => if 14 + 4 * t + c ≤ i ∧ i < 18 + 4 * t then q (i - 4) * 3 / 4 else q i
def outS (q : Nat → Int32) (t : Nat) : Nat → Int32 := fun i => if 4 < i ∧ i ≤ 4 + t then (if q (i - 1) - 4 < 0 then 0 else q (i - 1) - 4) else if 18 ≤ i ∧ i < 18 + 4 * t then q (i - 4) * 3 / 4 else q i
theorem m_inn (A : Nat → Nat → Int32) (r : Nat → Int32) {t : Nat} (ht0 : 0 < t) (ht : t < 10) : ∀ (d c : Nat) (q : Nat → Int32), c + d = 4 → rv_GO rc_X5_flows 39 [some (.ref 0), some (.int (nI t)), none, some (.int (nI c))] [] (mR A q r) = rv_GO rc_X5_flows 3 [some (.ref 0), some (.int (nI (t - 1))), none, none] [] (mR A (innS q t c) r) := by
  intro d
  induction d with
  | zero =>
    intro c q hc
    have hc : c = 4 := by omega
    subst hc
    rw [bk_X5_flows_39]
    simp only [cb_eq, cb_ne, cb_lt, cb_ge, cb_gt, cb_le, cb_q, cb_qL, ri_s, rl_s, rr_s, rv_s, Option.bind_some, i10, cond_true, cond_false, show (4 : Int32) ≤ nI 4 from by decide, if_true]
    have e1 : nI t + (-1) = nI (t - 1) := by
      have := pk_m1 (t - 1)
      rwa [show t - 1 + 1 = t by omega] at this
    rw [e1]
    refine congrArg _ (mR_congr A r fun j _ => ?_)
    simp only [innS]
    grind
  | succ d ih =>
    intro c q hc
    have hc4 : c < 4 := by omega
    rw [bk_X5_flows_39]
    have e1 : nI t - 1 = nI (t - 1) := pk_sub (b := 1) (by omega)
    simp only [cb_eq, cb_ne, cb_lt, cb_ge, cb_gt, cb_le, cb_q, cb_qL, ri_s, rl_s, rr_s, rv_s, Option.bind_some, i10, cond_true, cond_false, lfR, m_placeOf, e1, show ¬ (4 : Int32) ≤ nI c from nI_ge (a := c) (b := 4) hc4 (by decide), if_false, ldR A q r (show 14 + 4 * (t - 1) + c < 96 by omega), stR A q r (show 14 + 4 * t + c < 96 by omega), d4_0, nI_1]
    rw [ih (c + 1) _ (by omega)]
    refine congrArg _ (mR_congr A r fun j _ => ?_)
    simp only [innS, upd]
    grind
theorem m_out (A : Nat → Nat → Int32) (r : Nat → Int32) : ∀ (t : Nat) (q : Nat → Int32), t < 10 → rv_GO rc_X5_flows 3 [some (.ref 0), some (.int (nI t)), none, none] [] (mR A q r) = rv_GO rc_X5_flows 96 [some (.ref 0), some (.int 0), none, none] [] (mR A (upd (outS q t) 4 (q 2)) r) := by
  intro t
  induction t with
  | zero =>
    intro q ht
    rw [bk_X5_flows_3]
    simp only [cb_eq, cb_ne, cb_lt, cb_ge, cb_gt, cb_le, cb_q, cb_qL, ri_s, rl_s, rr_s, rv_s, Option.bind_some, i10, cond_true, cond_false, lfR, show nI 0 ≤ 0 from by decide, if_true, ldR2, show (4 : Int32) = nI 4 from rfl, stR A q r (show 4 < 96 by decide)]
    refine congrArg _ (mR_congr A r fun j _ => ?_)
    simp only [outS, upd]
    grind
  | succ t ih =>
    intro q ht
    have body : rv_GO rc_X5_flows 3 [some (.ref 0), some (.int (nI (t + 1))), none, none] [] (mR A q r) = rv_GO rc_X5_flows 39 [some (.ref 0), some (.int (nI (t + 1))), none, some (.int (nI 0))] [] (mR A (upd q (4 + (t + 1)) (if q (4 + t) - 4 < 0 then 0 else q (4 + t) - 4)) r) := by
      rw [bk_X5_flows_3]
      have e1 : nI (4 + (t + 1)) - 1 = nI (4 + t) := by rw [show 4 + (t + 1) = (4 + t) + 1 by omega]; exact nI_pred (4 + t)
      simp only [cb_eq, cb_ne, cb_lt, cb_ge, cb_gt, cb_le, cb_q, cb_qL, ri_s, rl_s, rr_s, rv_s, Option.bind_some, i10, cond_true, cond_false, lfR, c4_, e1, nI_nle (show 0 < t + 1 by omega) (show t + 1 < 2 ^ 31 by omega), if_false, ldR A q r (show 4 + t < 96 by omega), stR A q r (show 4 + (t + 1) < 96 by omega)]
      by_cases h : 0 ≤ q (4 + t) - 4
      · rw [if_pos h, if_neg (Int32.not_lt.mpr h)]
        rfl
      · rw [if_neg h, if_pos (Int32.not_le.mp h)]
        rfl
    rw [body, m_inn A r (by omega) ht 4 0 _ rfl, show t + 1 - 1 = t by omega, ih _ (by omega)]
    refine congrArg _ (mR_congr A r fun j _ => ?_)
    simp only [outS, innS, upd]
    grind
theorem m_flows (A : Nat → Nat → Int32) (s r : Nat → Int32) : rv_EV 137 [.ref 0] (mR A s r) = some (none, mR A (flwS s) r) := by
  rw [ev_X5_flows _ _ (obR A s r)]
  have h9 := m_out A r 9 s (by decide)
  rw [show nI 9 = 9 from rfl] at h9
  rw [h9]
  have st : ∀ (c : Nat) (q : Nat → Int32), c < 4 → rv_GO rc_X5_flows 96 [some (.ref 0), some (.int (nI c)), none, none] [] (mR A q r) = rv_GO rc_X5_flows 96 [some (.ref 0), some (.int (nI (c + 1))), none, none] [] (mR A (upd q (14 + c) 0) r) := by
    intro c q hc
    rw [bk_X5_flows_96]
    have e := m_placeOf 0 c (mR A q r)
    rw [nI_0, show 14 + 4 * 0 + c = 14 + c by omega] at e
    simp only [cb_eq, cb_ne, cb_lt, cb_ge, cb_gt, cb_le, cb_q, cb_qL, ri_s, rl_s, rr_s, rv_s, Option.bind_some, i10, cond_true, cond_false, lfR, e, show ¬ (4 : Int32) ≤ nI c from nI_ge (a := c) (b := 4) hc (by decide), if_false, stR A q r (show 14 + c < 96 by omega), nI_1]
  have s0 := st 0 (upd (outS s 9) 4 (s 2)) (by decide)
  rw [nI_0] at s0
  rw [s0, st 1 _ (by decide), st 2 _ (by decide), st 3 _ (by decide), bk_X5_flows_96]
  simp only [cb_eq, cb_ne, cb_lt, cb_ge, cb_gt, cb_le, cb_q, cb_qL, ri_s, rl_s, rr_s, rv_s, Option.bind_some, i10, cond_true, cond_false, show (4 : Int32) ≤ nI (3 + 1) from by decide, if_true]
  refine congrArg (fun w => some (none, w)) (mR_congr A r fun j _ => ?_)
  simp only [flwS, outS, upd]
  grind
