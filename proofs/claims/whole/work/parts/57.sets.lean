/-! SETS of bathers or tubs, bit by bit -/
def setB (β : Nat → Bool) : Nat → Int32
  | 0 => 0
  | k + 1 => setB β k ||| (if β k = true then 1 <<< (nI k &&& 31) else 0)
theorem sh1_bit : ∀ k : Fin 31, ∀ i : Fin 32, ((1 : Int32) <<< (nI k.val &&& 31)).toBitVec.getLsbD i.val = decide (i.val = k.val) := by decide +kernel
theorem sh1_at {k i : Nat} (hk : k < 31) (hi : i < 32) : ((1 : Int32) <<< (nI k &&& 31)).toBitVec.getLsbD i = decide (i = k) := sh1_bit ⟨k, hk⟩ ⟨i, hi⟩
theorem setB_at (β : Nat → Bool) {i : Nat} (hi : i < 32) : ∀ {n : Nat}, n < 31 → (setB β n).toBitVec.getLsbD i = (decide (i < n) && β i)
  | 0, _ => by
    rw [setB]
    simp
  | n + 1, hn => by
    rw [setB, Int32.toBitVec_or, BitVec.getLsbD_or, setB_at β hi (by omega)]
    by_cases e : β n = true
    · rw [if_pos e, sh1_at (by omega) hi]
      by_cases h1 : i < n
      · simp [h1, show i < n + 1 by omega, show ¬ i = n by omega]
      · by_cases h2 : i = n
        · subst h2; simp [e]
        · simp [h1, h2, show ¬ i < n + 1 by omega]
    · rw [if_neg e]
      by_cases h1 : i < n
      · simp [h1, show i < n + 1 by omega]
      · by_cases h2 : i = n
        · subst h2; simp [e]
        · simp [h1, show ¬ i < n + 1 by omega]
theorem i32_ext {x y : Int32} (h : ∀ i, i < 32 → x.toBitVec.getLsbD i = y.toBitVec.getLsbD i) : x = y := by
  apply Int32.toBitVec_inj.mp
  apply BitVec.eq_of_getLsbD_eq
  exact h
theorem setB_eq {β γ : Nat → Bool} {n : Nat} (hn : n < 31) : setB β n = setB γ n ↔ ∀ i, i < n → β i = γ i := by
  constructor
  · intro e i hi
    have := congrArg (fun z : Int32 => z.toBitVec.getLsbD i) e
    simp only [setB_at β (show i < 32 by omega) hn, setB_at γ (show i < 32 by omega) hn, hi, decide_true, Bool.true_and] at this
    exact this
  · intro e
    refine i32_ext fun i hi => ?_
    rw [setB_at β hi hn, setB_at γ hi hn]
    by_cases h : i < n
    · rw [e i h]
    · simp [h]
theorem setB_congr {β γ : Nat → Bool} {n : Nat} (hn : n < 31) (h : ∀ i, i < n → β i = γ i) : setB β n = setB γ n := (setB_eq hn).mpr h
theorem setB_0 {β : Nat → Bool} {n : Nat} (hn : n < 31) : setB β n = 0 ↔ ∀ i, i < n → β i = false := by
  have e : (0 : Int32) = setB (fun _ => false) n := by
    refine i32_ext fun i hi => ?_
    rw [setB_at _ hi hn]
    simp
  rw [e, setB_eq hn]
theorem setB_but {β : Nat → Bool} {n b : Nat} (hn : n < 31) (hb : b < n) : setB β n &&& ((1 <<< (nI b &&& 31)) ^^^ (-1)) = 0 ↔ ∀ i, i < n → ¬ i = b → β i = false := by
  have bit : ∀ i, i < 32 → (setB β n &&& ((1 <<< (nI b &&& 31)) ^^^ (-1))).toBitVec.getLsbD i = ((decide (i < n) && β i) && !decide (i = b)) := by
    intro i hi
    rw [Int32.toBitVec_and, BitVec.getLsbD_and, setB_at β hi hn, Int32.toBitVec_xor, BitVec.getLsbD_xor, sh1_at (by omega) hi]
    have : (-1 : Int32).toBitVec.getLsbD i = true := by
      rw [show (-1 : Int32).toBitVec = BitVec.allOnes 32 from rfl, BitVec.getLsbD_allOnes]
      simp [hi]
    rw [this]
    simp
  constructor
  · intro e i hi hne
    have := bit i (by omega)
    rw [e] at this
    simp [hi, hne] at this
    exact this
  · intro e
    refine i32_ext fun i hi => ?_
    rw [bit i hi]
    by_cases h1 : i < n
    · by_cases h2 : i = b
      · simp [h2]
      · simp [h1, e i h1 h2]
    · simp [h1]
theorem and1_01 (x : Int32) : x &&& 1 = 0 ∨ x &&& 1 = 1 := by
  have h : ∀ b : Bool, (x.toBitVec.getLsbD 0 = b) → x &&& 1 = if b then 1 else 0 := by
    intro b hb
    refine i32_ext fun i hi => ?_
    rw [Int32.toBitVec_and, BitVec.getLsbD_and]
    have e1 : (1 : Int32).toBitVec.getLsbD i = decide (i = 0) := by
      have := sh1_at (k := 0) (i := i) (by decide) hi
      rwa [show (1 : Int32) <<< (nI 0 &&& 31) = 1 from by decide] at this
    rw [e1]
    by_cases hi0 : i = 0
    · subst hi0
      rw [hb]
      cases b <;> rfl
    · cases b
      · simp [hi0]
      · rw [if_pos rfl, e1]
        simp [hi0]
  cases hb : x.toBitVec.getLsbD 0
  · exact Or.inl (h false hb)
  · exact Or.inr (h true hb)
/-- knows a scent -/
def knB (s : Nat → Int32) (c : Int32) (b : Nat) : Bool := decide (¬ (s (54 + 4 * b + 3) >>> (c &&& 31)) &&& 1 = 0)
theorem sh_01 (x c : Int32) {k : Nat} (hk : k < 31) : ((x >>> (c &&& 31)) &&& 1) <<< (nI k &&& 31) = if decide (¬ (x >>> (c &&& 31)) &&& 1 = 0) = true then 1 <<< (nI k &&& 31) else 0 := by
  rcases and1_01 (x >>> (c &&& 31)) with e | e
  · rw [e, if_neg (by decide)]
    have h : ∀ k : Fin 31, (0 : Int32) <<< (nI k.val &&& 31) = 0 := by decide +kernel
    exact h ⟨k, hk⟩
  · rw [e, if_pos (by decide)]
/-! sums -/
def sumS (f : Nat → Int32) : Nat → Int32
  | 0 => 0
  | k + 1 => sumS f k + f k
theorem sumS_congr {f g : Nat → Int32} : ∀ {n : Nat}, (∀ i, i < n → f i = g i) → sumS f n = sumS g n
  | 0, _ => rfl
  | n + 1, h => by rw [sumS, sumS, h n (by omega), sumS_congr (n := n) (fun i hi => h i (by omega))]
theorem r_sumOf (A : Nat → Nat → Int32) (s r : Nat → Int32) {a n : Nat} (h : a + n ≤ 96) : rv_EV 141 [.ref 0, .int (nI a), .int (nI n)] (mR A s r) = some (some (.int (sumS (fun k => s (a + k)) n)), mR A s r) := by
  have st : ∀ k, k ≤ n → rv_GO rc_X5_sumOf 5 [some (.ref 0), some (.int (nI a)), some (.int (nI n)), some (.int 0), some (.int 0)] [] (mR A s r) = rv_GO rc_X5_sumOf 5 [some (.ref 0), some (.int (nI a)), some (.int (nI n)), some (.int (sumS (fun k => s (a + k)) k)), some (.int (nI k))] [] (mR A s r) := by
    intro k
    induction k with
    | zero => intro _; rfl
    | succ k ih =>
      intro hk
      rw [ih (by omega), bk_X5_sumOf_5]
      simp only [cb_eq, cb_ne, cb_lt, cb_ge, cb_gt, cb_le, cb_q, cb_qL, ri_s, rl_s, rr_s, rv_s, Option.bind_some, i10, cond_true, cond_false, lfR, nI_add, nI_ge (show k < n by omega) (show n < 2 ^ 31 by omega), if_false, ldR A s r (show a + k < 96 by omega), nI_1]
      rfl
  rw [ev_X5_sumOf _ _ _ _ (obR A s r), st n (Nat.le_refl n), bk_X5_sumOf_5]
  simp only [cb_eq, cb_ne, cb_lt, cb_ge, cb_gt, cb_le, cb_q, cb_qL, ri_s, rl_s, rr_s, rv_s, Option.bind_some, i10, cond_true, cond_false, Int32.le_refl, if_true]
theorem r_sumW (A : Nat → Nat → Int32) (s r : Nat → Int32) : rv_EV 141 [.ref 0, .int 4, .int 10] (mR A s r) = some (some (.int (sumS (fun k => s (4 + k)) 10)), mR A s r) := r_sumOf A s r (a := 4) (n := 10) (by decide)
theorem r_sumC (A : Nat → Nat → Int32) (s r : Nat → Int32) : rv_EV 141 [.ref 0, .int 14, .int 40] (mR A s r) = some (some (.int (sumS (fun k => s (14 + k)) 40)), mR A s r) := r_sumOf A s r (a := 14) (n := 40) (by decide)
theorem len1 (S : Nat → Nat → Int32) {j : Nat} (hj : j < 3) (s : Nat → Int32) (F : Nat → Nat → Int32) (rb : Nat) : rv_len (cR S j s F rb) (sa j 1) = some 10 := by unfold cR; rcases (show j = 0 ∨ j = 1 ∨ j = 2 by omega) with rfl | rfl | rfl <;> rfl
theorem len2 (S : Nat → Nat → Int32) {j : Nat} (hj : j < 3) (s : Nat → Int32) (F : Nat → Nat → Int32) (rb : Nat) : rv_len (cR S j s F rb) (sa j 2) = some 40 := by unfold cR; rcases (show j = 0 ∨ j = 1 ∨ j = 2 by omega) with rfl | rfl | rfl <;> rfl
theorem len7 (S : Nat → Nat → Int32) {j : Nat} (hj : j < 3) (s : Nat → Int32) (F : Nat → Nat → Int32) (rb : Nat) : rv_len (cR S j s F rb) (sa j 7) = some 10 := by unfold cR; rcases (show j = 0 ∨ j = 1 ∨ j = 2 by omega) with rfl | rfl | rfl <;> rfl
theorem k_allWarmth (S : Nat → Nat → Int32) {j : Nat} (hj : j < 3) (s : Nat → Int32) (F : Nat → Nat → Int32) (rb : Nat) : rv_EV 35 [.ref (sp j)] (cR S j s F rb) = some (some (.int (sumS (fun k => s (4 + k)) 10)), cR S j s F rb) := by
  have st : ∀ k, k ≤ 10 → rv_GO rc_X2_allWarmth 13 [none, some (.int 0), some (.ref (sa j 1)), some (.int 10), some (.int 0), none] [] (cR S j s F rb) = rv_GO rc_X2_allWarmth 13 [none, some (.int (sumS (fun k => s (4 + k)) k)), some (.ref (sa j 1)), some (.int 10), some (.int (nI k)), none] [] (cR S j s F rb) := by
    intro k
    induction k with
    | zero => intro _; rfl
    | succ k ih =>
      intro hk
      rw [ih (by omega), bk_X2_allWarmth_13]
      simp only [cb_eq, cb_ne, cb_lt, cb_ge, cb_gt, cb_le, cb_q, cb_qL, ri_s, rl_s, rr_s, rv_s, Option.bind_some, i10, cond_true, cond_false, show ¬ (10 : Int32) ≤ nI k from nI_ge (a := k) (b := 10) (by omega) (by decide), if_false, cl1 S hj s F rb (show k < 10 by omega), nI_1]
      rfl
  rw [ev_X2_allWarmth _ _ (co S hj s F rb)]
  simp only [cb_eq, cb_ne, cb_lt, cb_ge, cb_gt, cb_le, cb_q, cb_qL, ri_s, rl_s, rr_s, rv_s, Option.bind_some, i10, cond_true, cond_false, cf1 S hj, len1 S hj]
  rw [st 10 (Nat.le_refl _), bk_X2_allWarmth_13]
  simp only [cb_eq, cb_ne, cb_lt, cb_ge, cb_gt, cb_le, cb_q, cb_qL, ri_s, rl_s, rr_s, rv_s, Option.bind_some, i10, cond_true, cond_false, show (10 : Int32) ≤ nI 10 from by decide, if_true]
theorem k_allScents (S : Nat → Nat → Int32) {j : Nat} (hj : j < 3) (s : Nat → Int32) (F : Nat → Nat → Int32) (rb : Nat) : rv_EV 36 [.ref (sp j)] (cR S j s F rb) = some (some (.int (sumS (fun k => s (14 + k)) 40)), cR S j s F rb) := by
  have st : ∀ k, k ≤ 40 → rv_GO rc_X2_allScents 13 [none, some (.int 0), some (.ref (sa j 2)), some (.int 40), some (.int 0), none] [] (cR S j s F rb) = rv_GO rc_X2_allScents 13 [none, some (.int (sumS (fun k => s (14 + k)) k)), some (.ref (sa j 2)), some (.int 40), some (.int (nI k)), none] [] (cR S j s F rb) := by
    intro k
    induction k with
    | zero => intro _; rfl
    | succ k ih =>
      intro hk
      rw [ih (by omega), bk_X2_allScents_13]
      simp only [cb_eq, cb_ne, cb_lt, cb_ge, cb_gt, cb_le, cb_q, cb_qL, ri_s, rl_s, rr_s, rv_s, Option.bind_some, i10, cond_true, cond_false, show ¬ (40 : Int32) ≤ nI k from nI_ge (a := k) (b := 40) (by omega) (by decide), if_false, cl2 S hj s F rb (show k < 40 by omega), nI_1]
      rfl
  rw [ev_X2_allScents _ _ (co S hj s F rb)]
  simp only [cb_eq, cb_ne, cb_lt, cb_ge, cb_gt, cb_le, cb_q, cb_qL, ri_s, rl_s, rr_s, rv_s, Option.bind_some, i10, cond_true, cond_false, cf2 S hj, len2 S hj]
  rw [st 40 (Nat.le_refl _), bk_X2_allScents_13]
  simp only [cb_eq, cb_ne, cb_lt, cb_ge, cb_gt, cb_le, cb_q, cb_qL, ri_s, rl_s, rr_s, rv_s, Option.bind_some, i10, cond_true, cond_false, show (40 : Int32) ≤ nI 40 from by decide, if_true]
/-! cold tubs -/
def belB (s : Nat → Int32) (v : Int32) (t : Nat) : Bool := decide (s (4 + t) < v)
theorem r_coldTubs (A : Nat → Nat → Int32) (s r : Nat → Int32) : rv_EV 142 [.ref 0] (mR A s r) = some (some (.int (setB (belB s 40) 10)), mR A s r) := by
  have st : ∀ k, k ≤ 10 → rv_GO rc_X5_coldTubs 4 [some (.ref 0), some (.int 0), some (.int 0)] [] (mR A s r) = rv_GO rc_X5_coldTubs 4 [some (.ref 0), some (.int (setB (belB s 40) k)), some (.int (nI k))] [] (mR A s r) := by
    intro k
    induction k with
    | zero => intro _; rfl
    | succ k ih =>
      intro hk
      rw [ih (by omega), bk_X5_coldTubs_4]
      simp only [cb_eq, cb_ne, cb_lt, cb_ge, cb_gt, cb_le, cb_q, cb_qL, ri_s, rl_s, rr_s, rv_s, Option.bind_some, i10, cond_true, cond_false, lfR, c4_, show ¬ (10 : Int32) ≤ nI k from nI_ge (a := k) (b := 10) (by omega) (by decide), if_false, ldR A s r (show 4 + k < 96 by omega), nI_1, setB, belB]
      by_cases e : s (4 + k) < 40
      · simp only [e, decide_true, if_true, Int32.not_le.mpr e, if_false]
      · simp only [e, decide_false, Bool.false_eq_true, if_false, Int32.not_lt.mp e, if_true]
  rw [ev_X5_coldTubs _ _ (obR A s r), st 10 (Nat.le_refl _), bk_X5_coldTubs_4]
  simp only [cb_eq, cb_ne, cb_lt, cb_ge, cb_gt, cb_le, cb_q, cb_qL, ri_s, rl_s, rr_s, rv_s, Option.bind_some, i10, cond_true, cond_false, show (10 : Int32) ≤ nI 10 from by decide, if_true]
theorem k_tubsBelow (S : Nat → Nat → Int32) {j : Nat} (hj : j < 3) (s : Nat → Int32) (F : Nat → Nat → Int32) (rb : Nat) (v : Int32) : rv_EV 33 [.ref (sp j), .int v] (cR S j s F rb) = some (some (.int (setB (belB s v) 10)), cR S j s F rb) := by
  have st : ∀ k, k ≤ 10 → rv_GO rc_X2_tubsBelow 4 [some (.ref (sp j)), some (.int v), some (.int 0), some (.int 0)] [] (cR S j s F rb) = rv_GO rc_X2_tubsBelow 4 [some (.ref (sp j)), some (.int v), some (.int (setB (belB s v) k)), some (.int (nI k))] [] (cR S j s F rb) := by
    intro k
    induction k with
    | zero => intro _; rfl
    | succ k ih =>
      intro hk
      rw [ih (by omega), bk_X2_tubsBelow_4]
      simp only [cb_eq, cb_ne, cb_lt, cb_ge, cb_gt, cb_le, cb_q, cb_qL, ri_s, rl_s, rr_s, rv_s, Option.bind_some, i10, cond_true, cond_false, show ¬ (10 : Int32) ≤ nI k from nI_ge (a := k) (b := 10) (by omega) (by decide), if_false, cf1 S hj, cl1 S hj s F rb (show k < 10 by omega), nI_1, setB, belB]
      by_cases e : s (4 + k) < v
      · simp only [e, decide_true, if_true, Int32.not_le.mpr e, if_false]
      · simp only [e, decide_false, Bool.false_eq_true, if_false, Int32.not_lt.mp e, if_true, or_0]
  rw [ev_X2_tubsBelow _ _ _ (co S hj s F rb), st 10 (Nat.le_refl _), bk_X2_tubsBelow_4]
  simp only [cb_eq, cb_ne, cb_lt, cb_ge, cb_gt, cb_le, cb_q, cb_qL, ri_s, rl_s, rr_s, rv_s, Option.bind_some, i10, cond_true, cond_false, show (10 : Int32) ≤ nI 10 from by decide, if_true]
/-! who know all -/
def allB (s : Nat → Int32) (b : Nat) : Bool := decide (s (54 + 4 * b + 3) ||| (1 <<< (s (54 + 4 * b + 2) &&& 31)) = 15)
theorem r_knowing (A : Nat → Nat → Int32) (s r : Nat → Int32) {n : Nat} (hn : n ≤ 8) (hs : s 0 = nI n) : rv_EV 143 [.ref 0] (mR A s r) = some (some (.int (setB (allB s) n)), mR A s r) := by
  have st : ∀ k, k ≤ n → rv_GO rc_X5_knowing 4 [some (.ref 0), some (.int 0), some (.int 0)] [] (mR A s r) = rv_GO rc_X5_knowing 4 [some (.ref 0), some (.int (setB (allB s) k)), some (.int (nI k))] [] (mR A s r) := by
    intro k
    induction k with
    | zero => intro _; rfl
    | succ k ih =>
      intro hk
      rw [ih (by omega), bk_X5_knowing_4]
      simp only [cb_eq, cb_ne, cb_lt, cb_ge, cb_gt, cb_le, cb_q, cb_qL, ri_s, rl_s, rr_s, rv_s, Option.bind_some, i10, cond_true, cond_false, lfR, ldR0, hs, ge0_8 hn (show k < n by omega), if_false, r_its3 A s r (show k < 8 by omega), r_its2 A s r (show k < 8 by omega), nI_1, setB, allB]
      by_cases e : s (54 + 4 * k + 3) ||| (1 <<< (s (54 + 4 * k + 2) &&& 31)) = 15
      · simp only [e, decide_true, if_true]
      · simp only [e, decide_false, Bool.false_eq_true, if_false]
  rw [ev_X5_knowing _ _ (obR A s r), st n (Nat.le_refl _), bk_X5_knowing_4]
  simp only [cb_eq, cb_ne, cb_lt, cb_ge, cb_gt, cb_le, cb_q, cb_qL, ri_s, rl_s, rr_s, rv_s, Option.bind_some, i10, cond_true, cond_false, lfR, ldR0, hs, Int32.le_refl, if_true]
theorem k_whoKnowAll (S : Nat → Nat → Int32) {j : Nat} (hj : j < 3) (s : Nat → Int32) (F : Nat → Nat → Int32) (rb : Nat) {n : Nat} (hn : n ≤ 8) (hs : s 0 = nI n) : rv_EV 30 [.ref (sp j)] (cR S j s F rb) = some (some (.int (setB (allB s) n)), cR S j s F rb) := by
  have st : ∀ k, k ≤ n → rv_GO rc_X2_whoKnowAll 4 [some (.ref (sp j)), some (.int 0), some (.int 0)] [] (cR S j s F rb) = rv_GO rc_X2_whoKnowAll 4 [some (.ref (sp j)), some (.int (setB (allB s) k)), some (.int (nI k))] [] (cR S j s F rb) := by
    intro k
    induction k with
    | zero => intro _; rfl
    | succ k ih =>
      intro hk
      rw [ih (by omega), bk_X2_whoKnowAll_4]
      simp only [cb_eq, cb_ne, cb_lt, cb_ge, cb_gt, cb_le, cb_q, cb_qL, ri_s, rl_s, rr_s, rv_s, Option.bind_some, i10, cond_true, cond_false, cg7 S hj, hs, ge0_8 hn (show k < n by omega), if_false, cf6 S hj, cf5 S hj, cl6 S hj s F rb (show k < 8 by omega), cl5 S hj s F rb (show k < 8 by omega), nI_1, setB, allB]
      by_cases e : s (54 + 4 * k + 3) ||| (1 <<< (s (54 + 4 * k + 2) &&& 31)) = 15
      · simp only [e, decide_true, if_true]
      · simp only [e, decide_false, Bool.false_eq_true, if_false, or_0]
  rw [ev_X2_whoKnowAll _ _ (co S hj s F rb), st n (Nat.le_refl _), bk_X2_whoKnowAll_4]
  simp only [cb_eq, cb_ne, cb_lt, cb_ge, cb_gt, cb_le, cb_q, cb_qL, ri_s, rl_s, rr_s, rv_s, Option.bind_some, i10, cond_true, cond_false, cg7 S hj, hs, Int32.le_refl, if_true]
/-! whom nobody knows -/
theorem k_whoKnow (S : Nat → Nat → Int32) {j : Nat} (hj : j < 3) (s : Nat → Int32) (F : Nat → Nat → Int32) (rb : Nat) (c : Int32) {n : Nat} (hn : n ≤ 8) (hs : s 0 = nI n) : rv_EV 29 [.ref (sp j), .int c] (cR S j s F rb) = some (some (.int (setB (knB s c) n)), cR S j s F rb) := by
  have st : ∀ k, k ≤ n → rv_GO rc_X2_whoKnow 4 [some (.ref (sp j)), some (.int c), some (.int 0), some (.int 0)] [] (cR S j s F rb) = rv_GO rc_X2_whoKnow 4 [some (.ref (sp j)), some (.int c), some (.int (setB (knB s c) k)), some (.int (nI k))] [] (cR S j s F rb) := by
    intro k
    induction k with
    | zero => intro _; rfl
    | succ k ih =>
      intro hk
      rw [ih (by omega), bk_X2_whoKnow_4]
      simp only [cb_eq, cb_ne, cb_lt, cb_ge, cb_gt, cb_le, cb_q, cb_qL, ri_s, rl_s, rr_s, rv_s, Option.bind_some, i10, cond_true, cond_false, cg7 S hj, hs, ge0_8 hn (show k < n by omega), if_false, cf6 S hj, cl6 S hj s F rb (show k < 8 by omega), nI_1, setB]
      rw [sh_01 _ _ (show k < 31 by omega)]
      rfl
  rw [ev_X2_whoKnow _ _ _ (co S hj s F rb), st n (Nat.le_refl _), bk_X2_whoKnow_4]
  simp only [cb_eq, cb_ne, cb_lt, cb_ge, cb_gt, cb_le, cb_q, cb_qL, ri_s, rl_s, rr_s, rv_s, Option.bind_some, i10, cond_true, cond_false, cg7 S hj, hs, Int32.le_refl, if_true]
def unkB (s : Nat → Int32) (n b : Nat) : Bool := decide (∀ o, o < n → ¬ o = b → knB s (s (54 + 4 * b + 2)) o = false)
theorem k_whoAreUnknown (S : Nat → Nat → Int32) {j : Nat} (hj : j < 3) (s : Nat → Int32) (F : Nat → Nat → Int32) (rb : Nat) {n : Nat} (hn : n ≤ 8) (hs : s 0 = nI n) : rv_EV 31 [.ref (sp j)] (cR S j s F rb) = some (some (.int (setB (unkB s n) n)), cR S j s F rb) := by
  have st : ∀ k, k ≤ n → rv_GO rc_X2_whoAreUnknown 4 [some (.ref (sp j)), some (.int 0), some (.int 0), none] [] (cR S j s F rb) = rv_GO rc_X2_whoAreUnknown 4 [some (.ref (sp j)), some (.int (setB (unkB s n) k)), some (.int (nI k)), none] [] (cR S j s F rb) := by
    intro k
    induction k with
    | zero => intro _; rfl
    | succ k ih =>
      intro hk
      rw [ih (by omega), bk_X2_whoAreUnknown_4]
      simp only [cb_eq, cb_ne, cb_lt, cb_ge, cb_gt, cb_le, cb_q, cb_qL, ri_s, rl_s, rr_s, rv_s, Option.bind_some, i10, cond_true, cond_false, cg7 S hj, hs, ge0_8 hn (show k < n by omega), if_false, cf5 S hj, cl5 S hj s F rb (show k < 8 by omega), k_whoKnow S hj s F rb _ hn hs, nI_1, setB, setB_but (β := knB s (s (54 + 4 * k + 2))) (show n < 31 by omega) (show k < n by omega)]
      by_cases e : ∀ o, o < n → ¬ o = k → knB s (s (54 + 4 * k + 2)) o = false
      · have hu : unkB s n k = true := decide_eq_true e
        rw [if_pos e, hu, if_pos rfl]
      · have hu : unkB s n k = false := decide_eq_false e
        rw [if_neg e, hu, if_neg Bool.false_ne_true, or_0]
  rw [ev_X2_whoAreUnknown _ _ (co S hj s F rb), st n (Nat.le_refl _), bk_X2_whoAreUnknown_4]
  simp only [cb_eq, cb_ne, cb_lt, cb_ge, cb_gt, cb_le, cb_q, cb_qL, ri_s, rl_s, rr_s, rv_s, Option.bind_some, i10, cond_true, cond_false, cg7 S hj, hs, Int32.le_refl, if_true]
def unkI (s : Nat → Int32) (b k : Nat) : Int32 := if ∀ o, o < k → ¬ o = b → knB s (s (54 + 4 * b + 2)) o = false then 1 else 0
theorem unkI_n (s : Nat → Int32) (b k : Nat) (h : k = b ∨ knB s (s (54 + 4 * b + 2)) k = false) : unkI s b (k + 1) = unkI s b k &&& 1 := by
  have e : (∀ o, o < k + 1 → ¬ o = b → knB s (s (54 + 4 * b + 2)) o = false) ↔ (∀ o, o < k → ¬ o = b → knB s (s (54 + 4 * b + 2)) o = false) := by
    constructor
    · intro q o ho; exact q o (by omega)
    · intro q o ho hne
      by_cases e : o = k
      · subst e
        rcases h with h | h
        · exact absurd h hne
        · exact h
      · exact q o (by omega) hne
  unfold unkI
  by_cases g : ∀ o, o < k → ¬ o = b → knB s (s (54 + 4 * b + 2)) o = false
  · rw [if_pos g, if_pos (e.mpr g)]; decide
  · rw [if_neg g, if_neg (fun q => g (e.mp q))]; decide
theorem unkI_y (s : Nat → Int32) (b k : Nat) (h1 : ¬ k = b) (h : knB s (s (54 + 4 * b + 2)) k = true) : unkI s b (k + 1) = unkI s b k &&& 0 := by
  unfold unkI
  rw [if_neg (fun q => by rw [q k (by omega) h1] at h; cases h)]
  split <;> decide
theorem r_unknown (A : Nat → Nat → Int32) (s r : Nat → Int32) {n : Nat} (hn : n ≤ 8) (hs : s 0 = nI n) : rv_EV 144 [.ref 0] (mR A s r) = some (some (.int (setB (unkB s n) n)), mR A s r) := by
  have inn : ∀ b v, b < n → ∀ k, k ≤ n → rv_GO rc_X5_unknown 19 [some (.ref 0), some (.int v), some (.int (nI b)), some (.int 1), some (.int 0)] [] (mR A s r) = rv_GO rc_X5_unknown 19 [some (.ref 0), some (.int v), some (.int (nI b)), some (.int (unkI s b k)), some (.int (nI k))] [] (mR A s r) := by
    intro b v hb k
    induction k with
    | zero => intro _; rw [show unkI s b 0 = 1 from if_pos (fun o ho => absurd ho (by omega))]; rfl
    | succ k ih =>
      intro hk
      rw [ih (by omega), bk_X5_unknown_19]
      simp only [cb_eq, cb_ne, cb_lt, cb_ge, cb_gt, cb_le, cb_q, cb_qL, ri_s, rl_s, rr_s, rv_s, Option.bind_some, i10, cond_true, cond_false, lfR, ldR0, hs, ge0_8 hn (show k < n by omega), if_false, r_its3 A s r (show k < 8 by omega), r_its2 A s r (show b < 8 by omega), nI_1, nI_eq (show k < 2 ^ 31 by omega) (show b < 2 ^ 31 by omega)]
      by_cases e1 : k = b
      · rw [if_pos e1, unkI_n s b k (Or.inl e1)]
      · rw [if_neg e1]
        by_cases e2 : (s (54 + 4 * k + 3) >>> (s (54 + 4 * b + 2) &&& 31)) &&& 1 = 0
        · rw [if_pos e2, unkI_n s b k (Or.inr (by simp [knB, e2]))]
        · rw [if_neg e2, unkI_y s b k e1 (by simp [knB, e2])]
  have st : ∀ k, k ≤ n → rv_GO rc_X5_unknown 4 [some (.ref 0), some (.int 0), some (.int 0), none, none] [] (mR A s r) = rv_GO rc_X5_unknown 4 [some (.ref 0), some (.int (setB (unkB s n) k)), some (.int (nI k)), none, none] [] (mR A s r) := by
    intro k
    induction k with
    | zero => intro _; rfl
    | succ k ih =>
      intro hk
      rw [ih (by omega), bk_X5_unknown_4]
      simp only [cb_eq, cb_ne, cb_lt, cb_ge, cb_gt, cb_le, cb_q, cb_qL, ri_s, rl_s, rr_s, rv_s, Option.bind_some, i10, cond_true, cond_false, lfR, ldR0, hs, ge0_8 hn (show k < n by omega), if_false]
      rw [inn k _ (by omega) n (Nat.le_refl _), bk_X5_unknown_19]
      simp only [cb_eq, cb_ne, cb_lt, cb_ge, cb_gt, cb_le, cb_q, cb_qL, ri_s, rl_s, rr_s, rv_s, Option.bind_some, i10, cond_true, cond_false, lfR, ldR0, hs, Int32.le_refl, if_true, nI_1, setB]
      unfold unkI
      by_cases e : ∀ o, o < n → ¬ o = k → knB s (s (54 + 4 * k + 2)) o = false
      · have hu : unkB s n k = true := decide_eq_true e
        rw [if_pos e, if_neg (by decide), hu, if_pos rfl]
      · have hu : unkB s n k = false := decide_eq_false e
        rw [if_neg e, if_pos rfl, hu, if_neg Bool.false_ne_true]
  rw [ev_X5_unknown _ _ (obR A s r), st n (Nat.le_refl _), bk_X5_unknown_4]
  simp only [cb_eq, cb_ne, cb_lt, cb_ge, cb_gt, cb_le, cb_q, cb_qL, ri_s, rl_s, rr_s, rv_s, Option.bind_some, i10, cond_true, cond_false, lfR, ldR0, hs, Int32.le_refl, if_true]
