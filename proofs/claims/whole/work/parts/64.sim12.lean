/-! WHO COMES TO KNOW a scent -/
theorem shr_bit : ∀ c : Fin 31, (nI c.val &&& 31).toBitVec.smod 32 = BitVec.ofNat 32 c.val := by decide
theorem bit_and1 (x : Int32) : (x &&& 1 = 0) ↔ x.toBitVec.getLsbD 0 = false := by
  have e1 : ∀ i, i < 32 → (1 : Int32).toBitVec.getLsbD i = decide (i = 0) := by
    intro i hi
    have := sh1_at (k := 0) (i := i) (by decide) hi
    rwa [show (1 : Int32) <<< (nI 0 &&& 31) = 1 from by decide] at this
  constructor
  · intro h
    have := congrArg (fun z : Int32 => z.toBitVec.getLsbD 0) h
    simp only [Int32.toBitVec_and, BitVec.getLsbD_and, e1 0 (by decide)] at this
    simpa using this
  · intro h
    refine i32_ext fun i hi => ?_
    rw [Int32.toBitVec_and, BitVec.getLsbD_and, e1 i hi]
    by_cases e : i = 0
    · subst e; rw [h]; rfl
    · simp [e]
theorem knB_bit (x : Int32) {c : Nat} (hc : c < 31) : ((x >>> (nI c &&& 31)) &&& 1 = 0) ↔ x.toBitVec.getLsbD c = false := by
  rw [bit_and1, Int32.toBitVec_shiftRight, shr_bit ⟨c, hc⟩, BitVec.sshiftRight_eq', BitVec.getLsbD_sshiftRight]
  have tn : (BitVec.ofNat 32 c).toNat = c := by rw [BitVec.toNat_ofNat, Nat.mod_eq_of_lt (by omega)]
  rw [tn]
  simp [show c + 0 < 32 by omega]
  intro q
  omega
theorem knB_at (s : Nat → Int32) {c : Nat} (hc : c < 31) (b : Nat) : knB s (nI c) b = (s (54 + 4 * b + 3)).toBitVec.getLsbD c := by
  unfold knB
  cases h : (s (54 + 4 * b + 3)).toBitVec.getLsbD c
  · rw [decide_eq_false]
    exact fun q => q ((knB_bit _ hc).mpr h)
  · rw [decide_eq_true]
    intro q
    rw [(knB_bit _ hc).mp q] at h
    cases h
/-- bather b comes to know scent c within the next hour -/
def nwB (gone : Int32) (q : Nat → Int32) (n c b : Nat) : Bool := decide ((gone >>> (nI b &&& 31)) &&& 1 = 0) && (moreS (knoS gone (batsS gone (flwS q) n) b) b).toBitVec.getLsbD c
def lrnP (gone : Int32) (q : Nat → Int32) (n c k : Nat) : Bool := !decide (∀ b, b < n → nwB gone (hoursS gone q k) n c b = false)
theorem m1_bit {i : Nat} (hi : i < 32) : (-1 : Int32).toBitVec.getLsbD i = true := by
  rw [show (-1 : Int32).toBitVec = BitVec.allOnes 32 from rfl, BitVec.getLsbD_allOnes]
  simp [hi]
theorem more_bit (s : Nat → Int32) (b : Nat) {c : Nat} (hc : c < 32) : (moreS s b).toBitVec.getLsbD c = ((smlS s b 4).toBitVec.getLsbD c && !(s (54 + 4 * b + 3)).toBitVec.getLsbD c) := by
  unfold moreS
  rw [Int32.toBitVec_and, BitVec.getLsbD_and, Int32.toBitVec_xor, BitVec.getLsbD_xor, m1_bit hc]
  cases (s (54 + 4 * b + 3)).toBitVec.getLsbD c <;> simp
/-- after an hour -/
theorem knB_hour {gone : Int32} {q : Nat → Int32} {n : Nat} (hn : n ≤ 8) (hs : q 0 = nI n) (ok : okN q n) {b c : Nat} (hb : b < n) (hc : c < 31) : knB (hourS gone q) (nI c) b = (knB q (nI c) b || nwB gone q n c b) := by
  have okf : okN (flwS q) n := fun b hb => (okB_congr (fun i h1 _ => flwS_out q (by omega))).1 (ok b hb)
  have K : knoS gone (batsS gone (flwS q) n) b (54 + 4 * b + 3) = q (54 + 4 * b + 3) := by
    rw [knoS_out b _ (fun _ _ => by omega), batsS_out n okf _ (by omega), flwS_out q (by omega)]
  rw [knB_at _ hc, knB_at _ hc]
  unfold hourS nwB
  rw [show (q 0).toNatClampNeg = n by rw [hs]; exact nI_clamp (by omega), pk_un (by omega), knoS_at hb, knoS, more_bit _ _ (by omega), K]
  by_cases h : (gone >>> (nI b &&& 31)) &&& 1 = 0
  · rw [if_pos h, pk_us, Int32.toBitVec_or, BitVec.getLsbD_or]
    simp only [h, decide_true, Bool.true_and]
    cases (q (54 + 4 * b + 3)).toBitVec.getLsbD c <;> simp
  · rw [if_neg h]
    simp [h, K]
theorem nw_no {gone : Int32} {q : Nat → Int32} {n : Nat} (hn : n ≤ 8) (hs : q 0 = nI n) (ok : okN q n) {c : Nat} (hc : c < 31) : (setB (knB (hourS gone q) (nI c)) n = setB (knB q (nI c)) n) ↔ ∀ b, b < n → nwB gone q n c b = false := by
  have okf : okN (flwS q) n := fun b hb => (okB_congr (fun i h1 _ => flwS_out q (by omega))).1 (ok b hb)
  rw [setB_eq (by omega)]
  constructor
  · intro h b hb
    have := h b hb
    rw [knB_hour hn hs ok hb hc] at this
    have K : knoS gone (batsS gone (flwS q) n) b (54 + 4 * b + 3) = q (54 + 4 * b + 3) := by
      rw [knoS_out b _ (fun _ _ => by omega), batsS_out n okf _ (by omega), flwS_out q (by omega)]
    cases e : nwB gone q n c b
    · rfl
    · rw [e, Bool.or_true] at this
      unfold nwB at e
      rw [more_bit _ _ (by omega), K, ← knB_at q hc b, ← this] at e
      simp at e
  · intro h b hb
    rw [knB_hour hn hs ok hb hc, h b hb, Bool.or_false]
/-! the reference's bits -/
theorem com_sh : ∀ m : Fin 16, ∀ n : Fin 8, ∀ i : Fin 64, ((nI m.val).toInt64 <<< (Int32.toInt64 (4 * nI n.val) &&& 63)).toBitVec.getLsbD i.val = (decide (4 * n.val ≤ i.val ∧ i.val < 4 * n.val + 4) && (nI m.val).toBitVec.getLsbD (i.val - 4 * n.val)) := by decide +kernel
theorem and_nI_b : ∀ a : Fin 16, (nI a.val).toBitVec.toNat = a.val := by decide
theorem more_nI (s : Nat → Int32) (b : Nat) : ∃ m, m < 16 ∧ moreS s b = nI m := by
  obtain ⟨m, hm, e⟩ := sml_nI s b
  refine ⟨(moreS s b).toBitVec.toNat % 16, Nat.mod_lt _ (by decide), ?_⟩
  have h15 : moreS s b &&& 15 = moreS s b := by
    refine i32_ext fun i hi => ?_
    rw [Int32.toBitVec_and, BitVec.getLsbD_and, more_bit _ _ hi, e]
    have : ∀ (m : Fin 16) (i : Fin 32), (nI m.val).toBitVec.getLsbD i.val = true → (15 : Int32).toBitVec.getLsbD i.val = true := by decide +kernel
    have t := this ⟨m, hm⟩ ⟨i, hi⟩
    simp only [] at t
    cases h : (nI m).toBitVec.getLsbD i
    · simp
    · rw [t h]; simp
  have := pk_and (moreS s b) (m := 15) 4 rfl
  rw [h15] at this
  exact this
theorem com_bit {gone : Int32} (s : Nat → Int32) : ∀ {n : Nat}, n ≤ 8 → ∀ {i : Nat}, i < 64 → (comS gone s n).toBitVec.getLsbD i = (decide (i / 4 < n) && (decide ((gone >>> (nI (i / 4) &&& 31)) &&& 1 = 0) && (moreS (knoS gone s (i / 4)) (i / 4)).toBitVec.getLsbD (i % 4)))
  | 0, _, i, hi => by
    rw [comS, show (Int32.toInt64 0).toBitVec = 0 from rfl]
    simp
  | n + 1, hn, i, hi => by
    have ih := com_bit (gone := gone) s (n := n) (by omega) hi
    rw [comS]
    by_cases hg : (gone >>> (nI n &&& 31)) &&& 1 = 0
    · rw [if_pos hg, Int64.toBitVec_or, BitVec.getLsbD_or, ih]
      obtain ⟨m, hm, e⟩ := more_nI (knoS gone s n) n
      rw [e, com_sh ⟨m, hm⟩ ⟨n, by omega⟩ ⟨i, hi⟩]
      by_cases h1 : i / 4 < n
      · simp only [h1, decide_true, Bool.true_and, show i / 4 < n + 1 by omega, show ¬ (4 * n ≤ i ∧ i < 4 * n + 4) by omega, decide_false, Bool.false_and, Bool.or_false]
      · by_cases h2 : i / 4 = n
        · subst h2
          simp only [h1, decide_false, Bool.false_and, Bool.false_or, show i / 4 < i / 4 + 1 by omega, decide_true, Bool.true_and, show 4 * (i / 4) ≤ i ∧ i < 4 * (i / 4) + 4 by omega, hg, e, show i - 4 * (i / 4) = i % 4 by omega, and_self]
        · simp only [h1, show ¬ i / 4 < n + 1 by omega, show ¬ (4 * n ≤ i ∧ i < 4 * n + 4) by omega, decide_false, Bool.false_and, Bool.or_false]
    · rw [if_neg hg, ih]
      by_cases h2 : i / 4 = n
      · subst h2
        simp [hg]
      · by_cases h1 : i / 4 < n
        · simp [h1, show i / 4 < n + 1 by omega]
        · simp [h1, show ¬ i / 4 < n + 1 by omega]
theorem ext_sh : ∀ b : Fin 8, ∀ c : Fin 4, (Int32.toInt64 ((4 * nI b.val) + nI c.val) &&& 63).toBitVec.smod 64 = BitVec.ofNat 64 (4 * b.val + c.val) := by decide +kernel
theorem one64 : ∀ i : Fin 64, (Int32.toInt64 1).toBitVec.getLsbD i.val = decide (i.val = 0) := by decide +kernel
theorem ext_bit (v : Int64) {b c : Nat} (hb : b < 8) (hc : c < 4) : ((v >>> (Int32.toInt64 ((4 * nI b) + nI c) &&& 63)) &&& (Int32.toInt64 1) = Int32.toInt64 0) ↔ v.toBitVec.getLsbD (4 * b + c) = false := by
  have sh : ∀ i, i < 64 → (v >>> (Int32.toInt64 ((4 * nI b) + nI c) &&& 63)).toBitVec.getLsbD i = (if 4 * b + c + i < 64 then v.toBitVec.getLsbD (4 * b + c + i) else v.toBitVec.msb) := by
    intro i hi
    rw [Int64.toBitVec_shiftRight, ext_sh ⟨b, hb⟩ ⟨c, hc⟩, BitVec.sshiftRight_eq', BitVec.getLsbD_sshiftRight]
    have tn : (BitVec.ofNat 64 (4 * b + c)).toNat = 4 * b + c := by rw [BitVec.toNat_ofNat, Nat.mod_eq_of_lt (by omega)]
    rw [tn]
    simp [show ¬ 64 ≤ i by omega]
  have bit : ∀ i, i < 64 → ((v >>> (Int32.toInt64 ((4 * nI b) + nI c) &&& 63)) &&& (Int32.toInt64 1)).toBitVec.getLsbD i = (decide (i = 0) && v.toBitVec.getLsbD (4 * b + c)) := by
    intro i hi
    rw [Int64.toBitVec_and, BitVec.getLsbD_and, one64 ⟨i, hi⟩, sh i hi]
    by_cases e : i = 0
    · subst e
      simp [show 4 * b + c < 64 by omega]
    · simp [e]
  constructor
  · intro h
    have := bit 0 (by decide)
    rw [h, show (Int32.toInt64 0).toBitVec = 0 from rfl] at this
    simpa using this.symm
  · intro h
    apply Int64.toBitVec_inj.mp
    apply BitVec.eq_of_getLsbD_eq
    intro i hi
    rw [bit i hi, h, show (Int32.toInt64 0).toBitVec = 0 from rfl]
    simp
theorem com_nw {gone : Int32} (q : Nat → Int32) {n : Nat} (hn : n ≤ 8) {b c : Nat} (hb : b < 8) (hc : c < 4) : (((comS gone (batsS gone (flwS q) n) n) >>> (Int32.toInt64 ((4 * nI b) + nI c) &&& 63)) &&& (Int32.toInt64 1) = Int32.toInt64 0) ↔ (b < n → nwB gone q n c b = false) := by
  rw [ext_bit _ hb hc, com_bit _ hn (by omega), show (4 * b + c) / 4 = b by omega, show (4 * b + c) % 4 = c by omega]
  unfold nwB
  by_cases h : b < n
  · simp only [h, decide_true, Bool.true_and, true_implies]
  · simp [h]
def hidI (gone : Int32) (q : Nat → Int32) (n c k : Nat) : Int32 := if ∀ b, b < k → b < n → nwB gone q n c b = false then 1 else 0
theorem hidI_n (gone : Int32) (q : Nat → Int32) (n c k : Nat) (h : k < n → nwB gone q n c k = false) : hidI gone q n c (k + 1) = hidI gone q n c k &&& 1 := by
  have e : (∀ b, b < k + 1 → b < n → nwB gone q n c b = false) ↔ (∀ b, b < k → b < n → nwB gone q n c b = false) := by
    constructor
    · intro f b hb; exact f b (by omega)
    · intro f b hb hbn
      by_cases e : b = k
      · subst e; exact h hbn
      · exact f b (by omega) hbn
  unfold hidI
  by_cases g : ∀ b, b < k → b < n → nwB gone q n c b = false
  · rw [if_pos g, if_pos (e.mpr g)]; decide
  · rw [if_neg g, if_neg (fun f => g (e.mp f))]; decide
theorem hidI_y (gone : Int32) (q : Nat → Int32) (n c k : Nat) (h : ¬ (k < n → nwB gone q n c k = false)) : hidI gone q n c (k + 1) = hidI gone q n c k &&& 0 := by
  unfold hidI
  rw [if_neg (fun f => h (fun hk => f k (by omega) hk))]
  split <;> decide
def hidB (gone : Int32) (q : Nat → Int32) (n c d k : Nat) : Bool := (untS (lrnP gone q n c) d k).isNone
theorem r_isHidden (A : Nat → Nat → Int32) (q r : Nat → Int32) (gone : Int32) {n : Nat} (hn : n ≤ 8) (hs : q 0 = nI n) (ok : okN q n) {c N : Nat} (hc : c < 4) (hN : N < 2 ^ 31) : rv_EV 160 [.ref 0, .int (nI c), .int (nI N), .int gone] (mR A q r) = some (some (.int (b01 (hidB gone q n c N 0))), mR (upA A 4 q) q r) := by
  have inn : ∀ (A : Nat → Nat → Int32) (s : Nat → Int32) (v7 : Int32) (k : Nat), k ≤ 8 → rv_GO rc_X5_isHidden 41 [some (.ref 0), some (.int (nI c)), some (.int (nI N)), some (.int gone), some (.long (comS gone (batsS gone (flwS s) n) n)), none, some (.int 1), some (.int v7), some (.int 0)] [] (mR A (hourS gone s) r) = rv_GO rc_X5_isHidden 41 [some (.ref 0), some (.int (nI c)), some (.int (nI N)), some (.int gone), some (.long (comS gone (batsS gone (flwS s) n) n)), none, some (.int (hidI gone s n c k)), some (.int v7), some (.int (nI k))] [] (mR A (hourS gone s) r) := by
    intro A s v7 k
    induction k with
    | zero => intro _; rw [show hidI gone s n c 0 = 1 from if_pos (fun b hb => absurd hb (by omega))]; rfl
    | succ k ih =>
      intro hk
      rw [ih (by omega), bk_X5_isHidden_41]
      simp only [cb_eq, cb_ne, cb_lt, cb_ge, cb_gt, cb_le, cb_q, cb_qL, ri_s, rl_s, rr_s, rv_s, Option.bind_some, i10, cond_true, cond_false, show ¬ (8 : Int32) ≤ nI k from nI_ge (a := k) (b := 8) (by omega) (by decide), if_false, lg_cmp_eq, nI_1]
      by_cases e : k < n → nwB gone s n c k = false
      · rw [if_pos ((com_nw s hn (by omega) hc).mpr e), hidI_n gone s n c k e]
      · rw [if_neg (fun f => e ((com_nw s hn (by omega) hc).mp f)), hidI_y gone s n c k e]
  have st : ∀ d k, k + d = N → rv_GO rc_X5_isHidden 20 [some (.ref 0), some (.int (nI c)), some (.int (nI N)), some (.int gone), none, none, some (.int 1), some (.int (nI k)), none] [] (mR (upA A 4 q) (hoursS gone q k) r) = some (some (.int (b01 (hidB gone q n c d k))), mR (upA A 4 q) q r) := by
    intro d
    induction d with
    | zero =>
      intro k hk
      have hk : k = N := by omega
      subst hk
      rw [bk_X5_isHidden_20]
      simp only [cb_eq, cb_ne, cb_lt, cb_ge, cb_gt, cb_le, cb_q, cb_qL, ri_s, rl_s, rr_s, rv_s, Option.bind_some, i10, cond_true, cond_false, Int32.le_refl, if_true, lfR, lfR3, r_cp41, bz1]
      rfl
    | succ d ih =>
      intro k hk
      obtain ⟨h1, h2⟩ := hoursS_ok (gone := gone) hn hs ok k
      have e0 : rv_GO rc_X5_isHidden 20 [some (.ref 0), some (.int (nI c)), some (.int (nI N)), some (.int gone), none, none, some (.int 0), some (.int (nI (k + 1))), none] [] (mR (upA A 4 q) (hoursS gone q (k + 1)) r) = some (some (.int 0), mR (upA A 4 q) q r) := by
        rw [bk_X5_isHidden_20]
        simp only [cb_eq, cb_ne, cb_lt, cb_ge, cb_gt, cb_le, cb_q, cb_qL, ri_s, rl_s, rr_s, rv_s, Option.bind_some, i10, cond_true, cond_false, lfR, lfR3, r_cp41, bz0, if_true]
        split <;> rfl
      rw [bk_X5_isHidden_20]
      simp only [cb_eq, cb_ne, cb_lt, cb_ge, cb_gt, cb_le, cb_q, cb_qL, ri_s, rl_s, rr_s, rv_s, Option.bind_some, i10, cond_true, cond_false, nI_ge (show k < N by omega) hN, if_false, show ¬ (1 : Int32) = 0 from by decide, m_hourBut (upA A 4 q) (hoursS gone q k) r gone hn h2 h1]
      rw [inn _ _ _ 8 (Nat.le_refl _), bk_X5_isHidden_41]
      simp only [cb_eq, cb_ne, cb_lt, cb_ge, cb_gt, cb_le, cb_q, cb_qL, ri_s, rl_s, rr_s, rv_s, Option.bind_some, i10, cond_true, cond_false, show (8 : Int32) ≤ nI 8 from by decide, if_true, nI_1]
      unfold hidB
      rw [untS]
      by_cases e : ∀ b, b < n → nwB gone (hoursS gone q k) n c b = false
      · have el : lrnP gone q n c k = false := by unfold lrnP; rw [decide_eq_true e]; rfl
        rw [el, if_neg Bool.false_ne_true]
        rw [show hidI gone (hoursS gone q k) n c 8 = 1 from if_pos (fun b _ hb => e b hb)]
        exact ih (k + 1) (by omega)
      · have el : lrnP gone q n c k = true := by unfold lrnP; rw [decide_eq_false e]; rfl
        rw [el, if_pos rfl]
        rw [show hidI gone (hoursS gone q k) n c 8 = 0 from if_neg (fun f => e (fun b hb => f b (by omega) hb))]
        exact e0
  rw [ev_X5_isHidden _ _ _ _ _ (obR A q r)]
  simp only [cb_eq, cb_ne, cb_lt, cb_ge, cb_gt, cb_le, cb_q, cb_qL, ri_s, rl_s, rr_s, rv_s, Option.bind_some, i10, cond_true, cond_false, lfR, lfR3, r_cp14]
  exact st N 0 (by omega)
theorem d_isLearned (S : Nat → Nat → Int32) (s q : Nat → Int32) (F : Nat → Nat → Int32) (rb : Nat) {n : Nat} (hn : n ≤ 8) (hs : q 0 = nI n) (ok : okN q n) (hw : wOK q) {t : Nat} (ht : q 1 = nI t) (ht2 : t ≤ 30000) {c N : Nat} (hc : c < 4) (hN : N ≤ 20) : ∃ q', rv_EV 105 [.ref 0, .int (nI c), .int (nI N)] (cD S s q F rb) = some (some (.int (b01 (!hidB (q 96) q n c N 0))), cD S s q' F rb) := by
  have st : ∀ d k, k + d = N → ∃ q', rv_GO rc_X4_isLearned 12 [some (.ref 0), some (.int (nI c)), some (.int (nI N)), some (.int (setB (knB (hoursS (q 96) q k) (nI c)) n)), some (.int (nI k))] [] (cD S s (hoursS (q 96) q k) F rb) = some (some (.int (b01 (!hidB (q 96) q n c d k))), cD S s q' F rb) := by
    intro d
    induction d with
    | zero =>
      intro k hk
      have hk : k = N := by omega
      subst hk
      refine ⟨hoursS (q 96) q k, ?_⟩
      rw [bk_X4_isLearned_12]
      simp only [cb_eq, cb_ne, cb_lt, cb_ge, cb_gt, cb_le, cb_q, cb_qL, ri_s, rl_s, rr_s, rv_s, Option.bind_some, i10, cond_true, cond_false, Int32.le_refl, if_true]
      rfl
    | succ d ih =>
      intro k hk
      obtain ⟨h1, h2⟩ := hoursS_ok (gone := q 96) hn hs ok k
      obtain ⟨h3, h4⟩ := hoursS_ok (gone := q 96) hn hs ok (k + 1)
      have hp := d_passHour S s (hoursS (q 96) q k) F rb hn h2 h1 (hoursS_w hn hs ok hw k) (by rw [hoursS_1 ht k, nI_1]; exact nI_le (a := t + k + 1) (b := 99999) (by omega) (by decide))
      rw [hoursS_96 hn hs ok k] at hp
      have wk := d_whoKnow S s (hourS (q 96) (hoursS (q 96) q k)) F rb (nI c) hn h4
      have iff := nw_no (gone := q 96) hn h2 h1 (show c < 31 by omega)
      unfold hidB
      rw [untS]
      by_cases e : ∀ b, b < n → nwB (q 96) (hoursS (q 96) q k) n c b = false
      · have el : lrnP (q 96) q n c k = false := by unfold lrnP; rw [decide_eq_true e]; rfl
        obtain ⟨q', hq'⟩ := ih (k + 1) (by omega)
        refine ⟨q', ?_⟩
        rw [el, if_neg Bool.false_ne_true, bk_X4_isLearned_12]
        simp only [cb_eq, cb_ne, cb_lt, cb_ge, cb_gt, cb_le, cb_q, cb_qL, ri_s, rl_s, rr_s, rv_s, Option.bind_some, i10, cond_true, cond_false, nI_ge (show k < N by omega) (show N < 2 ^ 31 by omega), if_false, dfD2, hp, wk, iff.mpr e, if_true, nI_1]
        rw [show setB (knB (hoursS (q 96) q k) (nI c)) n = setB (knB (hoursS (q 96) q (k + 1)) (nI c)) n from (iff.mpr e).symm]
        exact hq'
      · have el : lrnP (q 96) q n c k = true := by unfold lrnP; rw [decide_eq_false e]; rfl
        refine ⟨hourS (q 96) (hoursS (q 96) q k), ?_⟩
        rw [el, if_pos rfl, bk_X4_isLearned_12]
        simp only [cb_eq, cb_ne, cb_lt, cb_ge, cb_gt, cb_le, cb_q, cb_qL, ri_s, rl_s, rr_s, rv_s, Option.bind_some, i10, cond_true, cond_false, nI_ge (show k < N by omega) (show N < 2 ^ 31 by omega), if_false, dfD2, hp, wk]
        rw [if_neg (fun f => e (iff.mp f))]
        rfl
  obtain ⟨q', hq'⟩ := st N 0 (by omega)
  refine ⟨q', ?_⟩
  rw [ev_X4_isLearned _ _ _ _ (obE S s q F rb)]
  simp only [cb_eq, cb_ne, cb_lt, cb_ge, cb_gt, cb_le, cb_q, cb_qL, ri_s, rl_s, rr_s, rv_s, Option.bind_some, i10, cond_true, cond_false, dfD2, d_whoKnow S s q F rb (nI c) hn hs]
  exact hq'
/-! hides -/
theorem if4y {α : Type} {G1 G2 G3 G4 : Prop} [Decidable G1] [Decidable G2] [Decidable G3] [Decidable G4] (g : G1 ∧ G2 ∧ G3 ∧ G4) (f t : α) : (if ¬ G1 then f else if ¬ G2 then f else if ¬ G3 then f else if ¬ G4 then f else t) = t := by simp [g.1, g.2.1, g.2.2.1, g.2.2.2]
theorem s_hides {h : Nat} {A : Nat → Nat → Int32} {r : Nat → Int32} {S F : Nat → Nat → Int32} {rb : Nat} {s : Nat → Int32} (R : Rel h A r S F s) (hh : h ≤ 30000) (x y z w : Int32) : Sim h 161 72 [.int x, .int y, .int z, .int w] A r S F rb s := by
  by_cases g : (0 ≤ x ∧ x < 10) ∧ (0 ≤ y ∧ y < 4) ∧ (0 ≤ z ∧ z < 4)
  · by_cases g2 : ¬ y = z ∧ (0 ≤ w ∧ w ≤ 20)
    · obtain ⟨t, ht, rfl⟩ := ix_rg (n := 10) (by decide) g.1.1 g.1.2
      obtain ⟨u, hu, rfl⟩ := ix_rg (n := 4) (by decide) g.2.1.1 g.2.1.2
      obtain ⟨c, hc, rfl⟩ := ix_rg (n := 4) (by decide) g.2.2.1 g.2.2.2
      obtain ⟨k, hk, rfl⟩ := ix_le (n := 20) (by decide) g2.2.1 g2.2.2
      have hp96 : 14 + 4 * t + u < 96 := by omega
      have L : ∀ (d : Nat) (v more : Int32) (p q : Nat → Int32), v = s (14 + 4 * t + u) + more → (10010 - v.toInt).toNat ≤ d → v.toInt ≤ 10009 → Two A r S F rb s (rv_GO rc_X5_hides 62 [some (.ref 0), none, none, some (.int (nI c)), some (.int (nI k)), some (.int (nI (14 + 4 * t + u))), some (.int (s (14 + 4 * t + u))), none, none] [] (mR (upA A 4 p) (upd s (14 + 4 * t + u) v) r)) (rv_GO rc_X4_hides 56 [some (.ref 0), some (.int (nI t)), some (.int (nI u)), some (.int (nI c)), some (.int (nI k)), some (.int (s (14 + 4 * t + u))), some (.int more)] [] (cD S s q F rb)) := by
        intro d
        induction d with
        | zero =>
          intro v more p q hv hd hv2
          omega
        | succ d ih =>
          intro v more p q hv hd hv2
          by_cases le : 9999 < v
          · rw [bk_X5_hides_62, bk_X4_hides_56]
            simp only [cb_eq, cb_ne, cb_lt, cb_ge, cb_gt, cb_le, cb_q, cb_qL, ri_s, rl_s, rr_s, rv_s, Option.bind_some, i10, cond_true, cond_false, lfR, ldR _ _ r hp96, pk_us, le, if_true, bk_X5_hides_101, bk_X5_hides_131, stR _ _ r hp96, upd_upd, upd_self, r_f3, ← hv, d_f3]
            exact two_f (by decide)
          · have I' : Inv h (upd s (14 + 4 * t + u) v) := Inv_c R.1 (by omega) v
            obtain ⟨⟨n, hn, hs, ok, -⟩, ⟨t1, ht1, e1⟩, hw, h9⟩ := I'
            have rh := r_isHidden (upA A 4 p) (upd s (14 + 4 * t + u) v) r 0 hn hs ok hc (show k < 2 ^ 31 by omega)
            obtain ⟨q', hq'⟩ := d_isLearned S s (upd s (14 + 4 * t + u) v) F rb hn hs ok hw e1 (by omega) hc hk
            rw [upA_upA] at rh
            rw [h9] at hq'
            rw [bk_X5_hides_62, bk_X4_hides_56]
            simp only [cb_eq, cb_ne, cb_lt, cb_ge, cb_gt, cb_le, cb_q, cb_qL, ri_s, rl_s, rr_s, rv_s, Option.bind_some, i10, cond_true, cond_false, lfR, ldR _ _ r hp96, pk_us, le, if_false, rh, stR _ _ r hp96, upd_upd, ← hv, dfD0, dfD2, d_take, d_setScent S s s F rb ht hu, hq']
            cases hd2 : hidB 0 (upd s (14 + 4 * t + u) v) n c k 0 with
            | true =>
              have e2 : v - s (14 + 4 * t + u) = more := by rw [hv, Int32.add_comm]; exact Int32.add_sub_cancel _ _
              simp only [Bool.not_true, show ¬ b01 true = 0 from by decide, show b01 false = 0 from by decide, if_true, if_false, bk_X5_hides_101, bk_X5_hides_131, cb_eq, cb_ne, cb_lt, cb_ge, cb_gt, cb_le, cb_q, cb_qL, ri_s, rl_s, rr_s, rv_s, Option.bind_some, i10, cond_true, cond_false, lfR, ldR _ _ r hp96, pk_us, le, stR _ _ r hp96, upd_upd, upd_self, show ¬ (1 : Int32) = 0 from by decide, e2]
              exact two_n
            | false =>
              have l2 : v.toInt ≤ 9999 := Int32.le_iff_toInt_le.mp (Int32.not_lt.mp le)
              have l3 : (v + 10).toInt = v.toInt + 10 := by
                rw [Int32.toInt_add, show (10 : Int32).toInt = 10 from rfl]
                have := Int32.le_toInt v
                apply Int.bmod_eq_of_le <;> omega
              simp only [Bool.not_false, show ¬ b01 true = 0 from by decide, show b01 false = 0 from by decide, if_true, if_false]
              exact ih (v + 10) (more + 10) _ _ (by rw [hv, Int32.add_assoc]) (by omega) (by omega)
      obtain ⟨D, hD⟩ : ∃ D, (10010 - (s (14 + 4 * t + u)).toInt).toNat ≤ D := ⟨_, Nat.le_refl _⟩
      have l0 : Two A r S F rb s (rv_GO rc_X5_hides 62 [some (.ref 0), none, none, some (.int (nI c)), some (.int (nI k)), some (.int (nI (14 + 4 * t + u))), some (.int (s (14 + 4 * t + u))), none, none] [] (mR A s r)) (rv_GO rc_X4_hides 56 [some (.ref 0), some (.int (nI t)), some (.int (nI u)), some (.int (nI c)), some (.int (nI k)), some (.int (s (14 + 4 * t + u))), some (.int 0)] [] (cD S s (S 2) F rb)) := by
        by_cases b : (s (14 + 4 * t + u)).toInt ≤ 10009
        · have l0 := L D (s (14 + 4 * t + u)) 0 (A 4) (S 2) (add_0 _).symm hD b
          rw [upA_self, upd_self] at l0
          exact l0
        · have le : 9999 < s (14 + 4 * t + u) := by
            rw [Int32.lt_iff_toInt_lt, show (9999 : Int32).toInt = 9999 from rfl]
            omega
          rw [bk_X5_hides_62, bk_X4_hides_56]
          simp only [cb_eq, cb_ne, cb_lt, cb_ge, cb_gt, cb_le, cb_q, cb_qL, ri_s, rl_s, rr_s, rv_s, Option.bind_some, i10, cond_true, cond_false, lfR, ldR _ _ r hp96, le, if_true, bk_X5_hides_101, bk_X5_hides_131, stR _ _ r hp96, upd_self, r_f3, add_0, d_f3]
          have := two_f (A := A) (r := r) (S := S) (F := F) (rb := rb) (s := s) (p := A 4) (q := S 2) (x := -1000004) (k := 3) (by decide)
          rw [upA_self] at this
          exact this
      refine sim_two R ?_
      have sc : rv_EV 15 [.ref (sp 0), .int (nI t), .int (nI u)] (cD S s (S 2) F rb) = some (some (.int (s (14 + 4 * t + u))), cD S s (S 2) F rb) := by
        rw [← cR_D]
        exact k_scentIn S h03 s F rb ht hu
      rw [ev_X5_hides _ _ _ _ _ _ (obR A s r), ev_X4_hides _ _ _ _ _ _ (obE S s (S 2) F rb)]
      simp only [cb_eq, cb_ne, cb_lt, cb_ge, cb_gt, cb_le, cb_q, cb_qL, ri_s, rl_s, rr_s, rv_s, Option.bind_some, i10, cond_true, cond_false, m_isTub, m_isScent, m_isIn, r_f0, g2.1, if_false, m_placeOf, lfR, ldR A s r hp96, c_isTub, c_isScent, c_isWithin, d_f0, dfD0, sc]
      rw [if3y g, if_neg (fun f => f g2.2), if4y ⟨g.1, g.2.1, g.2.2, g2.2⟩]
      exact l0
    · have key : ∀ {α : Type} (f q : α), (if y = z then f else if ¬ (0 ≤ w ∧ w ≤ 20) then f else q) = f ∧ (if ¬ (0 ≤ w ∧ w ≤ 20) then f else if y = z then f else q) = f := by
        intro α f q
        by_cases e1 : y = z
        · simp [e1]
        · have e2 : ¬ (0 ≤ w ∧ w ≤ 20) := fun f => g2 ⟨e1, f⟩
          rw [if_neg e1, if_pos e2, if_pos e2]
          exact ⟨rfl, rfl⟩
      refine sim_f R (k := 0) (x := -1000001) (by decide) ?_ ?_
      · rw [ev_X5_hides _ _ _ _ _ _ (obR A s r)]
        simp only [cb_eq, cb_ne, cb_lt, cb_ge, cb_gt, cb_le, cb_q, cb_qL, ri_s, rl_s, rr_s, rv_s, Option.bind_some, i10, cond_true, cond_false, m_isTub, m_isScent, m_isIn, r_f0]
        exact (if3y g _ _).trans (key _ _).1
      · rw [ev_X4_hides _ _ _ _ _ _ (obD S 0 s F rb)]
        simp only [cb_eq, cb_ne, cb_lt, cb_ge, cb_gt, cb_le, cb_q, cb_qL, ri_s, rl_s, rr_s, rv_s, Option.bind_some, i10, cond_true, cond_false, c_isTub, c_isScent, c_isWithin, c_f0]
        exact (if3y g _ _).trans (key _ _).2
  · refine sim_f R (k := 0) (x := -1000001) (by decide) ?_ ?_
    · rw [ev_X5_hides _ _ _ _ _ _ (obR A s r)]
      simp only [cb_eq, cb_ne, cb_lt, cb_ge, cb_gt, cb_le, cb_q, cb_qL, ri_s, rl_s, rr_s, rv_s, Option.bind_some, i10, cond_true, cond_false, m_isTub, m_isScent, r_f0]
      exact if3n g _ _
    · rw [ev_X4_hides _ _ _ _ _ _ (obD S 0 s F rb)]
      simp only [cb_eq, cb_ne, cb_lt, cb_ge, cb_gt, cb_le, cb_q, cb_qL, ri_s, rl_s, rr_s, rv_s, Option.bind_some, i10, cond_true, cond_false, c_isTub, c_isScent, c_f0]
      exact if3n g _ _
