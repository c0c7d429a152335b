/-! THE CLASS: an hour of a spa -/
theorem k_bit : ∀ k : Fin 256, ∀ w : rv_W, rv_EV 209 [.int (nI k.val)] w = some (some (.int (nI (popS k.val))), w) := by
  have h : ∀ k : Fin 256, ∃ x : Int32, x = nI (popS k.val) ∧ ∀ w : rv_W, rv_EV 209 [.int (nI k.val)] w = some (some (.int x), w) := by
    intro k
    refine ⟨_, ?_, fun w => ev_J6_bitCount_0f7a4 (nI k.val) w⟩
    revert k
    decide +kernel
  intro k w
  obtain ⟨x, h1, h2⟩ := h k
  rw [h2 w, h1]
theorem k_bitCount {k : Nat} (hk : k < 256) (w : rv_W) : rv_EV 209 [.int (nI k)] w = some (some (.int (nI (popS k))), w) := k_bit ⟨k, hk⟩ w
theorem k_cools {k : Nat} (hk : k < 7) (w : rv_W) : rv_EV 3 [.int (nI k)] w = some (some (.int (coolS k)), w) := by
  have hk' : k < 1000 := by omega
  rw [ev_X0_cools]
  simp only [cb_eq, cb_ne, cb_lt, cb_ge, cb_gt, cb_le, cb_q, cb_qL, ri_s, rl_s, rr_s, rv_s, Option.bind_some, i10, cond_true, cond_false, sw1 hk', sw2 hk', sw3 hk', sw4 hk', sw5 hk', sw6 hk']
  rcases (show k = 0 ∨ k = 1 ∨ k = 2 ∨ k = 3 ∨ k = 4 ∨ k = 5 ∨ k = 6 by omega) with rfl | rfl | rfl | rfl | rfl | rfl | rfl <;> simp [coolS]
theorem k_nose {k : Nat} (hk : k < 7) (w : rv_W) : rv_EV 4 [.int (nI k)] w = some (some (.int (noseS k)), w) := by
  have hk' : k < 1000 := by omega
  rw [ev_X0_nose]
  simp only [cb_eq, cb_ne, cb_lt, cb_ge, cb_gt, cb_le, cb_q, cb_qL, ri_s, rl_s, rr_s, rv_s, Option.bind_some, i10, cond_true, cond_false, sw2 hk', sw3 hk', sw4 hk', sw5 hk', sw6 hk']
  rcases (show k = 0 ∨ k = 1 ∨ k = 2 ∨ k = 3 ∨ k = 4 ∨ k = 5 ∨ k = 6 by omega) with rfl | rfl | rfl | rfl | rfl | rfl | rfl <;> simp [noseS]
theorem t4_ (t c : Nat) : (nI t * 4) + nI c = nI (t * 4 + c) := by
  rw [show (4 : Int32) = nI 4 from rfl, pk_mul, nI_add]
theorem k_scentIn (S : Nat → Nat → Int32) {j : Nat} (hj : j < 3) (s : Nat → Int32) (F : Nat → Nat → Int32) (rb : Nat) {t c : Nat} (ht : t < 10) (hc : c < 4) : rv_EV 15 [.ref (sp j), .int (nI t), .int (nI c)] (cR S j s F rb) = some (some (.int (s (14 + 4 * t + c))), cR S j s F rb) := by
  rw [ev_X2_scentIn _ _ _ _ (co S hj s F rb), t4_]
  simp only [cb_eq, cb_ne, cb_lt, cb_ge, cb_gt, cb_le, cb_q, cb_qL, ri_s, rl_s, rr_s, rv_s, Option.bind_some, i10, cond_true, cond_false, cf2 S hj, cl2 S hj s F rb (show t * 4 + c < 40 by omega), show 14 + (t * 4 + c) = 14 + 4 * t + c by omega]
theorem k_setScent (S : Nat → Nat → Int32) {j : Nat} (hj : j < 3) (s : Nat → Int32) (F : Nat → Nat → Int32) (rb : Nat) {t c : Nat} (ht : t < 10) (hc : c < 4) (x : Int32) : rv_EV 16 [.ref (sp j), .int (nI t), .int (nI c), .int x] (cR S j s F rb) = some (none, cR S j (upd s (14 + 4 * t + c) x) F rb) := by
  rw [ev_X2_setScent _ _ _ _ _ (co S hj s F rb), t4_]
  simp only [cb_eq, cb_ne, cb_lt, cb_ge, cb_gt, cb_le, cb_q, cb_qL, ri_s, rl_s, rr_s, rv_s, Option.bind_some, i10, cond_true, cond_false, cf2 S hj, ct2 S hj s F rb (show t * 4 + c < 40 by omega), show 14 + (t * 4 + c) = 14 + 4 * t + c by omega]
theorem k_scentsIn (S : Nat → Nat → Int32) {j : Nat} (hj : j < 3) (s : Nat → Int32) (F : Nat → Nat → Int32) (rb : Nat) {t : Nat} (ht : t < 10) : rv_EV 17 [.ref (sp j), .int (nI t)] (cR S j s F rb) = some (some (.int (allS s t)), cR S j s F rb) := by
  have st : ∀ (c : Nat) (v : Int32), c < 4 → rv_GO rc_X2_scentsIn 4 [some (.ref (sp j)), some (.int (nI t)), some (.int v), some (.int (nI c))] [] (cR S j s F rb) = rv_GO rc_X2_scentsIn 4 [some (.ref (sp j)), some (.int (nI t)), some (.int (v + s (14 + 4 * t + c))), some (.int (nI (c + 1)))] [] (cR S j s F rb) := by
    intro c v hc
    rw [bk_X2_scentsIn_4]
    simp only [cb_eq, cb_ne, cb_lt, cb_ge, cb_gt, cb_le, cb_q, cb_qL, ri_s, rl_s, rr_s, rv_s, Option.bind_some, i10, cond_true, cond_false, k_scentIn S hj s F rb ht hc, nI_1, show ¬ (4 : Int32) ≤ nI c from nI_ge (a := c) (b := 4) hc (by decide), if_false]
  rw [ev_X2_scentsIn _ _ _ (co S hj s F rb)]
  rw [show (0 : Int32) = nI 0 from rfl, st 0 _ (by decide), st 1 _ (by decide), st 2 _ (by decide), st 3 _ (by decide), bk_X2_scentsIn_4]
  simp only [cb_eq, cb_ne, cb_lt, cb_ge, cb_gt, cb_le, cb_q, cb_qL, ri_s, rl_s, rr_s, rv_s, Option.bind_some, i10, cond_true, cond_false, show (4 : Int32) ≤ nI (3 + 1) from by decide, if_true]
  rfl
def pulS (s : Nat → Int32) (t : Nat) : Nat → Int32 := fun i => if i = 4 + t ∨ (14 + 4 * t ≤ i ∧ i < 18 + 4 * t) then 0 else s i
theorem k_pullPlug (S : Nat → Nat → Int32) {j : Nat} (hj : j < 3) (s : Nat → Int32) (F : Nat → Nat → Int32) (rb : Nat) {t : Nat} (ht : t < 10) : rv_EV 18 [.ref (sp j), .int (nI t)] (cR S j s F rb) = some (none, cR S j (pulS s t) F rb) := by
  have st : ∀ (c : Nat) (q : Nat → Int32), c < 4 → rv_GO rc_X2_pullPlug 9 [some (.ref (sp j)), some (.int (nI t)), some (.int (nI c))] [] (cR S j q F rb) = rv_GO rc_X2_pullPlug 9 [some (.ref (sp j)), some (.int (nI t)), some (.int (nI (c + 1)))] [] (cR S j (upd q (14 + 4 * t + c) 0) F rb) := by
    intro c q hc
    rw [bk_X2_pullPlug_9]
    simp only [cb_eq, cb_ne, cb_lt, cb_ge, cb_gt, cb_le, cb_q, cb_qL, ri_s, rl_s, rr_s, rv_s, Option.bind_some, i10, cond_true, cond_false, k_setScent S hj q F rb ht hc, nI_1, show ¬ (4 : Int32) ≤ nI c from nI_ge (a := c) (b := 4) hc (by decide), if_false]
  rw [ev_X2_pullPlug _ _ _ (co S hj s F rb)]
  simp only [cb_eq, cb_ne, cb_lt, cb_ge, cb_gt, cb_le, cb_q, cb_qL, ri_s, rl_s, rr_s, rv_s, Option.bind_some, i10, cond_true, cond_false, cf1 S hj, ct1 S hj s F rb ht]
  have s0 := st 0 (upd s (4 + t) 0) (by decide)
  rw [nI_0] at s0
  rw [s0, st 1 _ (by decide), st 2 _ (by decide), st 3 _ (by decide), bk_X2_pullPlug_9]
  simp only [cb_eq, cb_ne, cb_lt, cb_ge, cb_gt, cb_le, cb_q, cb_qL, ri_s, rl_s, rr_s, rv_s, Option.bind_some, i10, cond_true, cond_false, show (4 : Int32) ≤ nI (3 + 1) from by decide, if_true]
  refine congrArg (fun w => some (none, w)) (cR_congr S j F rb fun i _ => ?_)
  simp only [pulS, upd]
  grind
def addK (k kn : Nat) (a b : Int32) : Int32 := match k with
  | 1 => 128
  | 2 => 32
  | 3 => 8
  | 4 => 8 + nI (popS kn)
  | 5 => if b = 0 then 64 else 0
  | 6 => 128 + a
  | _ => 64
theorem addS_K (s : Nat → Int32) (b : Nat) : addK (kdS s b) (knS s b) (s (4 + tbS s b)) (s (14 + 4 * tbS s b + owS s b)) = addS s b := by
  unfold addS addK
  generalize kdS s b = k
  rcases k with _ | _ | _ | _ | _ | _ | _ | k <;> rfl
theorem k_addsX {k kn : Nat} (hk : k < 7) (hn : kn < 16) (a b : Int32) (w : rv_W) : rv_EV 2 [.int (nI k), .int a, .int b, .int (nI kn)] w = some (some (.int (addK k kn a b)), w) := by
  have hk' : k < 1000 := by omega
  rw [ev_X0_adds]
  simp only [cb_eq, cb_ne, cb_lt, cb_ge, cb_gt, cb_le, cb_q, cb_qL, ri_s, rl_s, rr_s, rv_s, Option.bind_some, i10, cond_true, cond_false, sw1 hk', sw2 hk', sw3 hk', sw4 hk', sw5 hk', sw6 hk', k_bitCount (show kn < 256 by omega)]
  rcases (show k = 0 ∨ k = 1 ∨ k = 2 ∨ k = 3 ∨ k = 4 ∨ k = 5 ∨ k = 6 by omega) with rfl | rfl | rfl | rfl | rfl | rfl | rfl
  case inr.inr.inr.inr.inr.inl =>
    by_cases h : b = 0 <;> simp [h, addK]
  all_goals simp [addK]
theorem k_addsOf (S : Nat → Nat → Int32) {j : Nat} (hj : j < 3) (s : Nat → Int32) (F : Nat → Nat → Int32) (rb : Nat) {b : Nat} (hb : b < 8) (ok : okB s b) : rv_EV 26 [.ref (sp j), .int (nI b)] (cR S j s F rb) = some (some (.int (addS s b)), cR S j s F rb) := by
  obtain ⟨⟨k1, k2⟩, ⟨t1, t2⟩, ⟨o1, o2⟩, ⟨n1, n2⟩⟩ := ok
  rw [ev_X2_addsOf _ _ _ (co S hj s F rb)]
  simp only [cb_eq, cb_ne, cb_lt, cb_ge, cb_gt, cb_le, cb_q, cb_qL, ri_s, rl_s, rr_s, rv_s, Option.bind_some, i10, cond_true, cond_false, cf1 S hj, cf3 S hj, cf4 S hj, cf5 S hj, cf6 S hj, cl3 S hj s F rb hb, cl4 S hj s F rb hb, cl5 S hj s F rb hb, cl6 S hj s F rb hb, k1, t1, o1, n1, cl1 S hj s F rb t2, k_scentIn S hj s F rb t2 o2, k_addsX k2 n2, addS_K]
theorem k_smelledBy (S : Nat → Nat → Int32) {j : Nat} (hj : j < 3) (s : Nat → Int32) (F : Nat → Nat → Int32) (rb : Nat) {b : Nat} (hb : b < 8) (ok : okB s b) : rv_EV 27 [.ref (sp j), .int (nI b)] (cR S j s F rb) = some (some (.int (smlS s b 4)), cR S j s F rb) := by
  obtain ⟨⟨k1, k2⟩, ⟨t1, t2⟩, ⟨o1, o2⟩, ⟨n1, n2⟩⟩ := ok
  have st : ∀ (c : Nat), c < 4 → rv_GO rc_X2_smelledBy 30 [some (.ref (sp j)), some (.int (nI b)), some (.int (nI (tbS s b))), some (.int (noseS (kdS s b))), some (.int (allS s (tbS s b))), some (.int (smlS s b c)), some (.int (nI c)), none, none] [] (cR S j s F rb) = rv_GO rc_X2_smelledBy 30 [some (.ref (sp j)), some (.int (nI b)), some (.int (nI (tbS s b))), some (.int (noseS (kdS s b))), some (.int (allS s (tbS s b))), some (.int (smlS s b (c + 1))), some (.int (nI (c + 1))), none, none] [] (cR S j s F rb) := by
    intro c hc
    rw [bk_X2_smelledBy_30]
    simp only [cb_eq, cb_ne, cb_lt, cb_ge, cb_gt, cb_le, cb_q, cb_qL, ri_s, rl_s, rr_s, rv_s, Option.bind_some, i10, cond_true, cond_false, k_scentIn S hj s F rb t2 hc, cf5 S hj, cl5 S hj s F rb hb, o1, nI_1, show ¬ (4 : Int32) ≤ nI c from nI_ge (a := c) (b := 4) hc (by decide), if_false, nI_eq (show c < 2 ^ 31 by omega) (show owS s b < 2 ^ 31 by omega), d8_0]
    rw [smlS]
    by_cases h1 : c = owS s b
    · rw [if_pos h1, if_neg (fun q => q.1 h1), or_0]
    · rw [if_neg h1]
      by_cases h2 : s (14 + 4 * tbS s b + c) < noseS (kdS s b) + (allS s (tbS s b) - s (14 + 4 * tbS s b + c)) / 8
      · rw [if_pos h2, if_neg (fun q => absurd h2 (Int32.not_lt.mpr q.2)), or_0]
      · rw [if_neg h2, if_pos ⟨h1, Int32.not_lt.mp h2⟩]
  rw [ev_X2_smelledBy _ _ _ (co S hj s F rb)]
  simp only [cb_eq, cb_ne, cb_lt, cb_ge, cb_gt, cb_le, cb_q, cb_qL, ri_s, rl_s, rr_s, rv_s, Option.bind_some, i10, cond_true, cond_false, cf4 S hj, cf3 S hj, cl4 S hj s F rb hb, cl3 S hj s F rb hb, t1, k1, k_nose k2, k_scentsIn S hj s F rb t2]
  have s0 := st 0 (by decide)
  rw [show smlS s b 0 = 0 from rfl, nI_0] at s0
  rw [s0, st 1 (by decide), st 2 (by decide), st 3 (by decide), bk_X2_smelledBy_30]
  simp only [cb_eq, cb_ne, cb_lt, cb_ge, cb_gt, cb_le, cb_q, cb_qL, ri_s, rl_s, rr_s, rv_s, Option.bind_some, i10, cond_true, cond_false, show (4 : Int32) ≤ nI (3 + 1) from by decide, if_true]
theorem k_isHere (S : Nat → Nat → Int32) {j : Nat} (hj : j < 3) (s : Nat → Int32) (F : Nat → Nat → Int32) (rb : Nat) (b : Int32) : rv_EV 24 [.ref (sp j), .int b] (cR S j s F rb) = some (some (.int (if (s 96 >>> (b &&& 31)) &&& 1 = 0 then 1 else 0)), cR S j s F rb) := by
  rw [ev_X2_isHere _ _ _ (co S hj s F rb)]
  simp only [cb_eq, cb_ne, cb_lt, cb_ge, cb_gt, cb_le, cb_q, cb_qL, ri_s, rl_s, rr_s, rv_s, Option.bind_some, i10, cond_true, cond_false, cg11 S hj]
  by_cases h : (s 96 >>> (b &&& 31)) &&& 1 = 0
  · simp only [h, if_true]
  · simp only [h, if_false]
theorem max_cool {x c : Int32} (hx : 0 ≤ x) (hc : 0 ≤ c) : rv_max (x - c) 0 = if x < c then 0 else x - c := by
  have h1 : (x - c).toInt = x.toInt - c.toInt := by
    have a1 := Int32.le_iff_toInt_le.mp hx
    have a2 := Int32.le_iff_toInt_le.mp hc
    have a3 := Int32.toInt_lt x
    have a4 := Int32.toInt_lt c
    rw [Int32.toInt_sub]
    rw [show (0 : Int32).toInt = 0 from rfl] at a1 a2
    apply Int.bmod_eq_of_le <;> omega
  unfold rv_max
  by_cases h : x < c
  · have h2 : x - c < 0 := by
      rw [Int32.lt_iff_toInt_lt, h1]
      have := Int32.lt_iff_toInt_lt.mp h
      show _ < (0 : Int)
      omega
    rw [if_pos h2, if_pos h]
  · have h2 : ¬ x - c < 0 := by
      rw [Int32.lt_iff_toInt_lt, h1]
      have := Int32.le_iff_toInt_le.mp (Int32.not_lt.mp h)
      show ¬ _ < (0 : Int)
      omega
    rw [if_neg h2, if_neg h]
theorem coolS_nn (k : Nat) : 0 ≤ coolS k := by
  unfold coolS
  split <;> decide
theorem k_bathe (S : Nat → Nat → Int32) {j : Nat} (hj : j < 3) (s : Nat → Int32) (F : Nat → Nat → Int32) (rb : Nat) {b : Nat} (hb : b < 8) (ok : okB s b) (hw : 0 ≤ s (4 + tbS s b)) : rv_EV 25 [.ref (sp j), .int (nI b)] (cR S j s F rb) = some (none, cR S j (batS s b) F rb) := by
  have okc : okB (coldS s b) b := (okB_congr (fun i h1 _ => coldS_out ok (by omega))).1 ok
  have hadd := k_addsOf S hj (coldS s b) F rb hb okc
  obtain ⟨⟨k1, k2⟩, ⟨t1, t2⟩, ⟨o1, o2⟩, ⟨n1, n2⟩⟩ := ok
  rw [ev_X2_bathe _ _ _ (co S hj s F rb)]
  simp only [cb_eq, cb_ne, cb_lt, cb_ge, cb_gt, cb_le, cb_q, cb_qL, ri_s, rl_s, rr_s, rv_s, Option.bind_some, i10, cond_true, cond_false, cf1 S hj, cf3 S hj, cf4 S hj, cf5 S hj, cl3 S hj s F rb hb, cl4 S hj s F rb hb, cl5 S hj s F rb hb, k1, t1, o1, cl1 S hj s F rb t2, k_cools k2, ct1 S hj s F rb t2, max_cool hw (coolS_nn _)]
  rw [show upd s (4 + tbS s b) (if s (4 + tbS s b) < coolS (kdS s b) then 0 else s (4 + tbS s b) - coolS (kdS s b)) = coldS s b from rfl]
  simp only [cb_eq, cb_ne, cb_lt, cb_ge, cb_gt, cb_le, cb_q, cb_qL, ri_s, rl_s, rr_s, rv_s, Option.bind_some, i10, cond_true, cond_false, k_scentIn S hj (coldS s b) F rb t2 o2, hadd, k_setScent S hj (coldS s b) F rb t2 o2]
  rfl
/-! water -/
def wS (q : Nat → Int32) (t : Nat) : Nat → Int32 := fun i => if 4 < i ∧ i ≤ 4 + t then (if q (i - 1) - 4 < 0 then 0 else q (i - 1) - 4) else q i
theorem max_0 (x : Int32) : rv_max x 0 = if x < 0 then 0 else x := rfl
theorem k_w1 (S : Nat → Nat → Int32) {j : Nat} (hj : j < 3) (s : Nat → Int32) (F : Nat → Nat → Int32) (rb : Nat) : ∀ (t : Nat) (q : Nat → Int32), t < 10 → rv_GO rc_X2_letWaterDown 3 [some (.ref (sp j)), some (.int (nI t))] [] (cR S j q F rb) = rv_GO rc_X2_letWaterDown 36 [some (.ref (sp j)), some (.int 39)] [] (cR S j (wS q t) F rb) := by
  intro t
  induction t with
  | zero =>
    intro q _
    rw [bk_X2_letWaterDown_3]
    simp only [cb_eq, cb_ne, cb_lt, cb_ge, cb_gt, cb_le, cb_q, cb_qL, ri_s, rl_s, rr_s, rv_s, Option.bind_some, i10, cond_true, cond_false, show nI 0 ≤ 0 from by decide, if_true]
    refine congrArg _ (cR_congr S j F rb fun i _ => ?_)
    simp only [wS]
    grind
  | succ t ih =>
    intro q ht
    rw [bk_X2_letWaterDown_3]
    simp only [cb_eq, cb_ne, cb_lt, cb_ge, cb_gt, cb_le, cb_q, cb_qL, ri_s, rl_s, rr_s, rv_s, Option.bind_some, i10, cond_true, cond_false, nI_nle (show 0 < t + 1 by omega) (show t + 1 < 2 ^ 31 by omega), if_false, cf1 S hj, nI_pred, cl1 S hj q F rb (show t < 10 by omega), ct1 S hj q F rb ht, pk_m1, max_0]
    rw [ih _ (by omega)]
    refine congrArg _ (cR_congr S j F rb fun i _ => ?_)
    simp only [wS, upd]
    grind
def cS (q : Nat → Int32) (k : Nat) : Nat → Int32 := fun i => if 18 ≤ i ∧ i < 15 + k then q (i - 4) * 3 / 4 else q i
theorem k_step (x : Int32) (w : rv_W) : rv_EV 22 [.int x] w = some (some (.int (x * 3 / 4)), w) := by
  rw [ev_X2_stepFurther]
  simp only [cb_eq, cb_ne, cb_lt, cb_ge, cb_gt, cb_le, cb_q, cb_qL, ri_s, rl_s, rr_s, rv_s, Option.bind_some, i10, cond_true, cond_false, d4_0, if_false]
theorem k_w2 (S : Nat → Nat → Int32) {j : Nat} (hj : j < 3) (s : Nat → Int32) (F : Nat → Nat → Int32) (rb : Nat) : ∀ (d : Nat) (q : Nat → Int32), d < 37 → rv_GO rc_X2_letWaterDown 36 [some (.ref (sp j)), some (.int (nI (3 + d)))] [] (cR S j q F rb) = rv_GO rc_X2_letWaterDown 36 [some (.ref (sp j)), some (.int 3)] [] (cR S j (cS q (3 + d)) F rb) := by
  intro d
  induction d with
  | zero =>
    intro q _
    rw [show nI (3 + 0) = 3 from rfl]
    refine congrArg _ (cR_congr S j F rb fun i _ => ?_)
    simp only [cS]
    grind
  | succ d ih =>
    intro q hd
    have e1 : nI (3 + (d + 1)) - 4 = nI d := by
      have := pk_sub (a := 3 + (d + 1)) (b := 4) (by omega)
      rwa [show 3 + (d + 1) - 4 = d by omega] at this
    have e2 : nI (3 + (d + 1)) + (-1) = nI (3 + d) := pk_m1 (3 + d)
    rw [bk_X2_letWaterDown_36]
    simp only [cb_eq, cb_ne, cb_lt, cb_ge, cb_gt, cb_le, cb_q, cb_qL, ri_s, rl_s, rr_s, rv_s, Option.bind_some, i10, cond_true, cond_false, show ¬ nI (3 + (d + 1)) < 4 from nI_nlt (a := 3 + (d + 1)) (b := 4) (by omega) (by omega), if_false, cf2 S hj, e1, e2, cl2 S hj q F rb (show d < 40 by omega), k_step, ct2 S hj q F rb (show 3 + (d + 1) < 40 by omega)]
    rw [ih _ (by omega)]
    refine congrArg _ (cR_congr S j F rb fun i _ => ?_)
    simp only [cS, upd]
    grind
theorem k_letWaterDown (S : Nat → Nat → Int32) {j : Nat} (hj : j < 3) (s : Nat → Int32) (F : Nat → Nat → Int32) (rb : Nat) : rv_EV 23 [.ref (sp j)] (cR S j s F rb) = some (none, cR S j (flwS s) F rb) := by
  rw [ev_X2_letWaterDown _ _ (co S hj s F rb)]
  have h1 := k_w1 S hj s F rb 9 s (by decide)
  rw [show nI 9 = 9 from rfl] at h1
  have h2 := k_w2 S hj s F rb 36 (wS s 9) (by decide)
  rw [show nI (3 + 36) = 39 from rfl] at h2
  rw [h1, h2, bk_X2_letWaterDown_36]
  have hp := k_pullPlug S hj (cS (wS s 9) (3 + 36)) F rb (t := 0) (by decide)
  rw [nI_0] at hp
  have ht := ct1 S hj (pulS (cS (wS s 9) (3 + 36)) 0) F rb (k := 0) (by decide)
  rw [nI_0] at ht
  simp only [cb_eq, cb_ne, cb_lt, cb_ge, cb_gt, cb_le, cb_q, cb_qL, ri_s, rl_s, rr_s, rv_s, Option.bind_some, i10, cond_true, cond_false, show (3 : Int32) < 4 from by decide, if_true, hp, cf1 S hj, cg8 S hj, ht]
  refine congrArg (fun w => some (none, w)) (cR_congr S j F rb fun i _ => ?_)
  simp only [flwS, pulS, cS, wS, upd]
  grind
