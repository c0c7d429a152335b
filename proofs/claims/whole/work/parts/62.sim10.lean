/-! plugFor -/
theorem setB_8 (β : Nat → Bool) {n : Nat} (hn : n ≤ 8) : setB β n = setB (fun i => decide (i < n) && β i) 8 := by
  refine i32_ext fun i hi => ?_
  rw [setB_at _ hi (by omega), setB_at _ hi (by omega)]
  by_cases h : i < n
  · simp [h, show i < 8 by omega]
  · simp [h]
def b01 (b : Bool) : Int32 := if b = true then 1 else 0
theorem sum_8 (β : Nat → Bool) {n : Nat} (hn : n ≤ 8) : sumS (fun i => b01 (β i)) n = sumS (fun i => b01 (decide (i < n) && β i)) 8 := by
  have h : ∀ d, n + d ≤ 8 → sumS (fun i => b01 (decide (i < n) && β i)) (n + d) = sumS (fun i => b01 (β i)) n := by
    intro d
    induction d with
    | zero =>
      intro _
      refine sumS_congr fun i hi => ?_
      show b01 (decide (i < n) && β i) = b01 (β i)
      simp [show i < n from hi]
    | succ d ih =>
      intro hd
      rw [← Nat.add_assoc, sumS, ih (by omega)]
      simp [b01]
      intro q
      omega
  have := h (8 - n) (by omega)
  rw [show n + (8 - n) = 8 by omega] at this
  exact this.symm
def bitN (b : Bool) (k : Nat) : Nat := if b = true then k else 0
theorem pop_8 : ∀ b0 b1 b2 b3 b4 b5 b6 b7 : Bool, ((((((((0 : Int32) ||| (if b0 = true then 1 <<< (nI 0 &&& 31) else 0)) ||| (if b1 = true then 1 <<< (nI 1 &&& 31) else 0)) ||| (if b2 = true then 1 <<< (nI 2 &&& 31) else 0)) ||| (if b3 = true then 1 <<< (nI 3 &&& 31) else 0)) ||| (if b4 = true then 1 <<< (nI 4 &&& 31) else 0)) ||| (if b5 = true then 1 <<< (nI 5 &&& 31) else 0)) ||| (if b6 = true then 1 <<< (nI 6 &&& 31) else 0)) ||| (if b7 = true then 1 <<< (nI 7 &&& 31) else 0) = nI (bitN b0 1 + bitN b1 2 + bitN b2 4 + bitN b3 8 + bitN b4 16 + bitN b5 32 + bitN b6 64 + bitN b7 128) ∧ bitN b0 1 + bitN b1 2 + bitN b2 4 + bitN b3 8 + bitN b4 16 + bitN b5 32 + bitN b6 64 + bitN b7 128 < 256 ∧ nI (popS (bitN b0 1 + bitN b1 2 + bitN b2 4 + bitN b3 8 + bitN b4 16 + bitN b5 32 + bitN b6 64 + bitN b7 128)) = 0 + b01 b0 + b01 b1 + b01 b2 + b01 b3 + b01 b4 + b01 b5 + b01 b6 + b01 b7 := by decide +kernel
theorem setB_pop (β : Nat → Bool) {n : Nat} (hn : n ≤ 8) : ∃ m, m < 256 ∧ setB β n = nI m ∧ nI (popS m) = sumS (fun i => b01 (β i)) n := by
  rw [setB_8 β hn, sum_8 β hn]
  obtain ⟨h1, h2, h3⟩ := pop_8 (decide (0 < n) && β 0) (decide (1 < n) && β 1) (decide (2 < n) && β 2) (decide (3 < n) && β 3) (decide (4 < n) && β 4) (decide (5 < n) && β 5) (decide (6 < n) && β 6) (decide (7 < n) && β 7)
  exact ⟨_, h2, h1, h3⟩
theorem and_b01 (x : Int32) : x &&& 1 = b01 (decide (¬ x &&& 1 = 0)) := by
  rcases and1_01 x with e | e <;> rw [e] <;> decide
theorem s_plugFor {h : Nat} {A : Nat → Nat → Int32} {r : Nat → Int32} {S F : Nat → Nat → Int32} {rb : Nat} {s : Nat → Int32} (R : Rel h A r S F s) (hh : h ≤ 30000) (c y : Int32) : Sim h 163 74 [.int c, .int y] A r S F rb s := by
  by_cases g : (0 ≤ c ∧ c < 4) ∧ (0 ≤ y ∧ y ≤ 40)
  · obtain ⟨n, hn, hs, ok, -⟩ := R.1.1
    obtain ⟨k, hk, rfl⟩ := ix_le (n := 40) (by decide) g.2.1 g.2.2
    have inn : ∀ (A : Nat → Nat → Int32) (q : Nat → Int32), q 0 = nI n → ∀ (v3 v4 v5 : Int32) (j : Nat), j ≤ n → rv_GO rc_X5_plugFor 72 [some (.ref 0), some (.int c), some (.int (nI k)), some (.int v3), some (.int v4), some (.int v5), none, some (.int 0), some (.int 0)] [] (mR A q r) = rv_GO rc_X5_plugFor 72 [some (.ref 0), some (.int c), some (.int (nI k)), some (.int v3), some (.int v4), some (.int v5), none, some (.int (sumS (fun i => b01 (knB q c i)) j)), some (.int (nI j))] [] (mR A q r) := by
      intro A q hq v3 v4 v5 j
      induction j with
      | zero => intro _; rfl
      | succ j ih =>
        intro hj
        rw [ih (by omega), bk_X5_plugFor_72]
        simp only [cb_eq, cb_ne, cb_lt, cb_ge, cb_gt, cb_le, cb_q, cb_qL, ri_s, rl_s, rr_s, rv_s, Option.bind_some, i10, cond_true, cond_false, lfR, ldR0, hq, ge0_8 hn (show j < n by omega), if_false, r_its3 A q r (show j < 8 by omega), nI_1]
        rw [and_b01]
        rfl
    have L : ∀ (d o : Nat) (best most : Int32) (p q : Nat → Int32), o + d = 10 → Two A r S F rb s (rv_GO rc_X5_plugFor 35 [some (.ref 0), some (.int c), some (.int (nI k)), some (.int best), some (.int most), some (.int (nI o)), none, none, none] [] (mR (upA A 4 p) s r)) (rv_GO rc_X4_plugFor 31 [some (.ref 0), some (.int c), some (.int (nI k)), some (.int best), some (.int most), some (.int (nI o)), none] [] (cD S s q F rb)) := by
      intro d
      induction d with
      | zero =>
        intro o best most p q ho
        have ho : o = 10 := by omega
        subst ho
        rw [bk_X5_plugFor_35, bk_X4_plugFor_31]
        simp only [cb_eq, cb_ne, cb_lt, cb_ge, cb_gt, cb_le, cb_q, cb_qL, ri_s, rl_s, rr_s, rv_s, Option.bind_some, i10, cond_true, cond_false, show (10 : Int32) ≤ nI 10 from by decide, if_true]
        exact two_n
      | succ d ih =>
        intro o best most p q ho
        have ho10 : o < 10 := by omega
        have I' := Inv_pul R.1 ho10
        have hs' : pulS s o 0 = nI n := by unfold pulS; rw [if_neg (by omega)]; exact hs
        obtain ⟨n', hn', hs2, ok', -⟩ := I'.1
        have en : n' = n := (nI_eq (by omega) (by omega)).mp (hs2.symm.trans hs')
        subst en
        obtain ⟨-, hq⟩ := hoursS_ok (gone := 0) hn hs2 ok' k
        obtain ⟨m, hm, em, pm⟩ := setB_pop (knB (hoursS 0 (pulS s o) k) c) hn
        have wk := d_whoKnow S s (hoursS 0 (pulS s o) k) F rb c hn hq
        rw [em] at wk
        rw [bk_X5_plugFor_35, bk_X4_plugFor_31]
        simp only [cb_eq, cb_ne, cb_lt, cb_ge, cb_gt, cb_le, cb_q, cb_qL, ri_s, rl_s, rr_s, rv_s, Option.bind_some, i10, cond_true, cond_false, lfR, lfR3, show ¬ (10 : Int32) ≤ nI o from nI_ge (a := o) (b := 10) (by omega) (by decide), if_false, r_cp14, upA_upA, r_pulls _ s r ho10, t_hours I' (upA A 4 s) r (show k < 2 ^ 31 by omega), dfD0, dfD2, d_take, d_pullPlug S s s F rb ho10, t_passH I' S s F rb (show h + k ≤ 99999 by omega), wk, k_bitCount hm, pm, nI_1]
        rw [inn _ _ hq _ _ _ n' (Nat.le_refl _), bk_X5_plugFor_72]
        simp only [cb_eq, cb_ne, cb_lt, cb_ge, cb_gt, cb_le, cb_q, cb_qL, ri_s, rl_s, rr_s, rv_s, Option.bind_some, i10, cond_true, cond_false, lfR, lfR3, ldR0, hq, Int32.le_refl, if_true, r_cp41, bk_X5_plugFor_129, nI_1]
        by_cases le : most ≤ sumS (fun i => b01 (knB (hoursS 0 (pulS s o) k) c i)) n'
        · simp only [le, if_true]
          exact ih (o + 1) best most _ _ (by omega)
        · simp only [le, if_false]
          exact ih (o + 1) (nI o) _ _ _ (by omega)
    have l0 := L 10 0 0 9 (A 4) (S 2) (by omega)
    rw [upA_self, nI_0] at l0
    refine sim_two R ?_
    rw [ev_X5_plugFor _ _ _ _ (obR A s r), ev_X4_plugFor _ _ _ _ (obE S s (S 2) F rb)]
    simp only [cb_eq, cb_ne, cb_lt, cb_ge, cb_gt, cb_le, cb_q, cb_qL, ri_s, rl_s, rr_s, rv_s, Option.bind_some, i10, cond_true, cond_false, m_isScent, m_isIn, r_f0, c_isScent, c_isWithin, d_f0]
    rw [if2y g, if2y g]
    exact l0
  · refine sim_f R (k := 0) (x := -1000001) (by decide) ?_ ?_
    · rw [ev_X5_plugFor _ _ _ _ (obR A s r)]
      simp only [cb_eq, cb_ne, cb_lt, cb_ge, cb_gt, cb_le, cb_q, cb_qL, ri_s, rl_s, rr_s, rv_s, Option.bind_some, i10, cond_true, cond_false, m_isScent, m_isIn, r_f0]
      exact if2n g _ _
    · rw [ev_X4_plugFor _ _ _ _ (obD S 0 s F rb)]
      simp only [cb_eq, cb_ne, cb_lt, cb_ge, cb_gt, cb_le, cb_q, cb_qL, ri_s, rl_s, rr_s, rv_s, Option.bind_some, i10, cond_true, cond_false, c_isScent, c_isWithin, c_f0]
      exact if2n g _ _
/-! plugs -/
theorem shr8 (x : Int32) : ∃ j : Nat, j < 2 ^ 24 ∧ (Int32.toUInt32 x >>> (Int32.toUInt32 8 &&& Int32.toUInt32 31)).toInt32 = nI j := by
  refine ⟨(Int32.toUInt32 x).toNat / 256, ?_, ?_⟩
  · have := (Int32.toUInt32 x).toNat_lt
    omega
  · apply Int32.toBitVec_inj.mp
    apply BitVec.eq_of_toNat_eq
    have h1 : (Int32.toUInt32 x).toNat < 2 ^ 32 := (Int32.toUInt32 x).toNat_lt
    rw [pk_tn (by omega)]
    show (Int32.toUInt32 x >>> (Int32.toUInt32 8 &&& Int32.toUInt32 31)).toNat = _
    rw [UInt32.toNat_shiftRight, show (Int32.toUInt32 8 &&& Int32.toUInt32 31).toNat % 32 = 8 from rfl, Nat.shiftRight_eq_div_pow]
theorem plugs_L {A : Nat → Nat → Int32} {r : Nat → Int32} {S F : Nat → Nat → Int32} {rb : Nat} {h n : Nat} (hh : h ≤ 30000) (hn : n ≤ 20) : ∀ (d k : Nat) (s : Nat → Int32), k + d = n → Inv (h + k) s → ∃ v s', rv_GO rc_X5_plugs 41 [some (.ref 0), some (.int (nI n)), some (.int (nI k)), none] [] (mR A s r) = some (some (.int v), mR A s' r) ∧ rv_GO rc_X4_plugs 39 [some (.ref 0), some (.int (nI n)), some (.int (nI k))] [] (cR S 0 s F rb) = some (some (.int v), cR S 0 s' F rb) ∧ Inv (h + n) s' := by
  intro d
  induction d with
  | zero =>
    intro k s hk I
    have hk : k = n := by omega
    subst hk
    refine ⟨sumS (fun k => s (4 + k)) 10, s, ?_, ?_, I⟩
    · rw [bk_X5_plugs_41]
      simp only [cb_eq, cb_ne, cb_lt, cb_ge, cb_gt, cb_le, cb_q, cb_qL, ri_s, rl_s, rr_s, rv_s, Option.bind_some, i10, cond_true, cond_false, Int32.le_refl, if_true, r_sumW]
    · rw [bk_X4_plugs_39]
      simp only [cb_eq, cb_ne, cb_lt, cb_ge, cb_gt, cb_le, cb_q, cb_qL, ri_s, rl_s, rr_s, rv_s, Option.bind_some, i10, cond_true, cond_false, lfD0, lfD1, lfD2, lfD3, lfD4, lfD5, lfD6, lgD7, lgD8, sgD7, sgD8, Int32.le_refl, if_true, k_allWarmth S h03]
  | succ d ih =>
    intro k s hk I
    have I1 := Inv_3 I (s 3 * 1103515245 + 12345)
    obtain ⟨j, hj, ej⟩ := shr8 (s 3 * 1103515245 + 12345)
    have er : nI j - nI j / 10 * 10 = nI (j % 10) := pk_rem (a := j) (d := 10) (by omega) (by decide) (by decide)
    have h10 : j % 10 < 10 := Nat.mod_lt _ (by decide)
    have I2 := Inv_pul I1 h10
    have I3 := Inv_hour I2
    obtain ⟨v, s', h1, h2, h3⟩ := ih (k + 1) _ (by omega) I3
    have w3 : ∀ x, rv_stI (mR A s r) 1 3 x = some (mR A (upd s 3 x) r) := fun x => stR A s r (j := 3) (by decide) x
    obtain ⟨⟨N, hN, hs, ok, -⟩, ⟨t1, ht1, e1⟩, hw, h9⟩ := I2
    have ph := k_passHour S h03 (pulS (upd s 3 (s 3 * 1103515245 + 12345)) (j % 10)) F rb hN hs ok hw (by rw [e1, nI_1]; exact nI_le (a := t1 + 1) (b := 99999) (by omega) (by decide))
    rw [h9] at ph
    have mh := r_hour1 A (pulS (upd s 3 (s 3 * 1103515245 + 12345)) (j % 10)) r hN hs ok
    refine ⟨v, s', ?_, ?_, h3⟩
    · rw [bk_X5_plugs_41]
      simp only [cb_eq, cb_ne, cb_lt, cb_ge, cb_gt, cb_le, cb_q, cb_qL, ri_s, rl_s, rr_s, rv_s, Option.bind_some, i10, cond_true, cond_false, nI_ge (show k < n by omega) (show n < 2 ^ 31 by omega), if_false, lfR, ldR3, w3, pk_us, d10_0, ej, er, r_pulls A _ r h10, mh, nI_1]
      exact h1
    · rw [bk_X4_plugs_39]
      have nd : rv_EV 19 [.ref (sp 0)] (cR S 0 s F rb) = some (some (.int (nI j)), cR S 0 (upd s 3 (s 3 * 1103515245 + 12345)) F rb) := by
        rw [ev_X2_nextDraw _ _ (co S h03 s F rb)]
        simp only [cb_eq, cb_ne, cb_lt, cb_ge, cb_gt, cb_le, cb_q, cb_qL, ri_s, rl_s, rr_s, rv_s, Option.bind_some, i10, cond_true, cond_false, cg10 S h03, ch10 S h03, pk_us, ej]
      simp only [cb_eq, cb_ne, cb_lt, cb_ge, cb_gt, cb_le, cb_q, cb_qL, ri_s, rl_s, rr_s, rv_s, Option.bind_some, i10, cond_true, cond_false, lfD0, lfD1, lfD2, lfD3, lfD4, lfD5, lfD6, lgD7, lgD8, sgD7, sgD8, nI_ge (show k < n by omega) (show n < 2 ^ 31 by omega), if_false, nd, d10_0, er, k_pullPlug S h03 _ F rb h10, ph, nI_1]
      exact h2
theorem s_plugs {h : Nat} {A : Nat → Nat → Int32} {r : Nat → Int32} {S F : Nat → Nat → Int32} {rb : Nat} {s : Nat → Int32} (R : Rel h A r S F s) (hh : h ≤ 30000) (x : Int32) : Sim (h + 40) 169 77 [.int x] A r S F rb s := by
  by_cases g : 1 ≤ x ∧ x ≤ 20
  · obtain ⟨t1, ht1, e1⟩ := R.1.2.1
    have hx0 : 0 ≤ x := Int32.le_trans (by decide) g.1
    obtain ⟨n, hn, rfl⟩ := ix_le (n := 20) (by decide) hx0 g.2
    have c1 : nI t1 + nI n ≤ 99999 := by rw [nI_add]; exact nI_le (a := t1 + n) (b := 99999) (by omega) (by decide)
    have c2 : nI t1 ≤ 99999 - nI n := by
      rw [show (99999 : Int32) = nI 99999 from rfl, pk_sub (by omega)]
      exact nI_le (by omega) (by omega)
    obtain ⟨v, s', h1, h2, h3⟩ := plugs_L (A := A) (r := r) (S := S) (F := F) (rb := rb) hh hn n 0 s (by omega) R.1
    rw [nI_0] at h1 h2
    refine sim_r (s' := s') (x := v) R (by omega) ?_ ?_ (h3.mono (by omega))
    · rw [ev_X5_plugs _ _ _ (obR A s r)]
      simp only [cb_eq, cb_ne, cb_lt, cb_ge, cb_gt, cb_le, cb_q, cb_qL, ri_s, rl_s, rr_s, rv_s, Option.bind_some, i10, cond_true, cond_false, m_isIn, r_f0, lfR, ldR1, e1, c1, if_true]
      exact (if1y g _ _).trans h1
    · rw [ev_X4_plugs _ _ _ (obD S 0 s F rb)]
      simp only [cb_eq, cb_ne, cb_lt, cb_ge, cb_gt, cb_le, cb_q, cb_qL, ri_s, rl_s, rr_s, rv_s, Option.bind_some, i10, cond_true, cond_false, lfD0, lfD1, lfD2, lfD3, lfD4, lfD5, lfD6, lgD7, lgD8, sgD7, sgD8, cg9 S h03, e1, c2, if_true, g.2, show ¬ nI n < 1 from Int32.not_lt.mpr g.1, if_false]
      exact h2
  · have g' : x < 1 ∨ (¬ x < 1 ∧ ¬ x ≤ 20) := by
      by_cases e : x < 1
      · exact Or.inl e
      · exact Or.inr ⟨e, fun q => g ⟨Int32.not_lt.mp e, q⟩⟩
    refine sim_f (R.mono (by omega)) (k := 0) (x := -1000001) (by decide) ?_ ?_
    · rw [ev_X5_plugs _ _ _ (obR A s r)]
      simp only [cb_eq, cb_ne, cb_lt, cb_ge, cb_gt, cb_le, cb_q, cb_qL, ri_s, rl_s, rr_s, rv_s, Option.bind_some, i10, cond_true, cond_false, m_isIn, r_f0]
      exact if1n g _ _
    · rw [ev_X4_plugs _ _ _ (obD S 0 s F rb)]
      simp only [cb_eq, cb_ne, cb_lt, cb_ge, cb_gt, cb_le, cb_q, cb_qL, ri_s, rl_s, rr_s, rv_s, Option.bind_some, i10, cond_true, cond_false, lfD0, lfD1, lfD2, lfD3, lfD4, lfD5, lfD6, lgD7, lgD8, sgD7, sgD8, c_f0]
      rcases g' with e | ⟨e1, e2⟩
      · rw [if_pos e]
      · rw [if_neg e1, if_neg e2]
/-! fits, kinds -/
def tolS (q f : Nat → Int32) : Nat → Nat → Bool
  | 0, _ => true
  | d + 1, k => if f k = -1 ∨ f k = hoursS 0 q k 50 then tolS q f d (k + 1) else false
theorem bz0 : rv_bz 0 = true := rfl
theorem bz1 : rv_bz 1 = true := rfl
theorem r_isTold {h : Nat} {q : Nat → Int32} (I : Inv h q) (A : Nat → Nat → Int32) (r : Nat → Int32) {t n : Nat} (ht : t < 4) (hn : n ≤ 40) (a8 : A 8 t = nI n) {f : Nat → Int32} (a9 : ∀ k, k < 40 → A 9 (40 * t + k) = f k) : rv_EV 164 [.ref 0, .int (nI t)] (mR A q r) = some (some (.int (b01 (tolS q f n 0))), mR (upA A 4 q) q r) := by
  obtain ⟨N, hN, hs, ok, -⟩ := I.1
  have p50 : ∀ w, rv_EV 118 [.int 9, .int 0] w = some (some (.int (nI 50)), w) := fun w => m_placeOf 9 0 w
  have st : ∀ d k, k + d = n → rv_GO rc_X5_isTold 15 [some (.ref 0), some (.int (nI t)), some (.int 1), some (.int (nI k)), none] [] (mR (upA A 4 q) (hoursS 0 q k) r) = some (some (.int (b01 (tolS q f d k))), mR (upA A 4 q) q r) := by
    intro d
    induction d with
    | zero =>
      intro k hk
      have hk : k = n := by omega
      subst hk
      rw [bk_X5_isTold_15]
      simp only [cb_eq, cb_ne, cb_lt, cb_ge, cb_gt, cb_le, cb_q, cb_qL, ri_s, rl_s, rr_s, rv_s, Option.bind_some, i10, cond_true, cond_false, lgR4, sgR4, lgR7, sgR7, lgR11, sgR11, lgR12, sgR12, lgR13, sgR13, lgR14, sgR14, lgR15, sgR15, lfR_1, lfR_2, lfR_3, lfR_5, lfR_6, lfR_8, lfR_9, lfR_10, ldR8 _ _ r ht, upA_n A (show ¬ 8 = 4 by decide), a8, Int32.le_refl, if_true, lfR, r_cp41, bz1]
      rfl
    | succ d ih =>
      intro k hk
      obtain ⟨h1, h2⟩ := hoursS_ok (gone := 0) hN hs ok k
      have hh := r_hour1 (upA A 4 q) (hoursS 0 q k) r hN h2 h1
      have e0 : rv_GO rc_X5_isTold 15 [some (.ref 0), some (.int (nI t)), some (.int 0), some (.int (nI (k + 1))), none] [] (mR (upA A 4 q) (hoursS 0 q (k + 1)) r) = some (some (.int 0), mR (upA A 4 q) q r) := by
        rw [bk_X5_isTold_15]
        simp only [cb_eq, cb_ne, cb_lt, cb_ge, cb_gt, cb_le, cb_q, cb_qL, ri_s, rl_s, rr_s, rv_s, Option.bind_some, i10, cond_true, cond_false, lgR4, sgR4, lgR7, sgR7, lgR11, sgR11, lgR12, sgR12, lgR13, sgR13, lgR14, sgR14, lgR15, sgR15, lfR_1, lfR_2, lfR_3, lfR_5, lfR_6, lfR_8, lfR_9, lfR_10, ldR8 _ _ r ht, upA_n A (show ¬ 8 = 4 by decide), a8, lfR, r_cp41, bz0, if_true]
        split <;> rfl
      rw [bk_X5_isTold_15]
      simp only [cb_eq, cb_ne, cb_lt, cb_ge, cb_gt, cb_le, cb_q, cb_qL, ri_s, rl_s, rr_s, rv_s, Option.bind_some, i10, cond_true, cond_false, lgR4, sgR4, lgR7, sgR7, lgR11, sgR11, lgR12, sgR12, lgR13, sgR13, lgR14, sgR14, lgR15, sgR15, lfR_1, lfR_2, lfR_3, lfR_5, lfR_6, lfR_8, lfR_9, lfR_10, ldR8 _ _ r ht, upA_n A (show ¬ 8 = 4 by decide), a8, nI_ge (show k < n by omega) (show n < 2 ^ 31 by omega), if_false, show ¬ (1 : Int32) = 0 from by decide, c40_, ldR9 _ _ r (show 40 * t + k < 160 by omega), upA_n A (show ¬ 9 = 4 by decide), a9 k (by omega), hh, lfR, p50, ldR _ _ r (show 50 < 96 by decide), nI_1, tolS]
      by_cases g1 : f k = -1
      · rw [if_pos g1, if_pos (Or.inl g1)]
        exact ih (k + 1) (by omega)
      · rw [if_neg g1]
        by_cases g2 : f k = hoursS 0 q k 50
        · rw [if_pos g2, if_pos (Or.inr g2)]
          exact ih (k + 1) (by omega)
        · rw [if_neg g2, if_neg (fun q => q.elim g1 g2)]
          exact e0
  rw [ev_X5_isTold _ _ _ (obR A q r)]
  simp only [cb_eq, cb_ne, cb_lt, cb_ge, cb_gt, cb_le, cb_q, cb_qL, ri_s, rl_s, rr_s, rv_s, Option.bind_some, i10, cond_true, cond_false, lfR, lfR3, r_cp14]
  exact st n 0 (by omega)
theorem dH2 (S : Nat → Nat → Int32) (s q : Nat → Int32) (F : Nat → Nat → Int32) (rb : Nat) {i : Nat} (hi : i < 4) : rv_ldFI (cD S s q F rb) (sh i) 0 2 = some (F (sh i) 2) := lgH2D (upA S 0 s) 2 q F rb hi
theorem dHf (S : Nat → Nat → Int32) (s q : Nat → Int32) (F : Nat → Nat → Int32) (rb : Nat) {i : Nat} (hi : i < 4) : rv_ldFR (cD S s q F rb) (sh i) 0 0 = some (sn i) := lfHD (upA S 0 s) 2 q F rb hi
theorem dHl (S : Nat → Nat → Int32) (s q : Nat → Int32) (F : Nat → Nat → Int32) (rb : Nat) {i : Nat} (hi : i < 4) {k : Nat} (h : k < 40) : rv_ldI (cD S s q F rb) (sn i) (nI k) = some (F (sn i) k) := ldHD (upA S 0 s) 2 q F rb hi h
theorem dQ (S : Nat → Nat → Int32) (s q : Nat → Int32) (F : Nat → Nat → Int32) (rb : Nat) {i : Nat} (hi : i < 4) : rv_ldQ (cD S s q F rb) 25 (nI i) = some (sh i) := qD (upA S 0 s) 2 q F rb hi
theorem d_comesOut {h : Nat} (hh : h ≤ 30000) {q : Nat → Int32} (I : Inv h q) (S : Nat → Nat → Int32) (s : Nat → Int32) (F : Nat → Nat → Int32) (rb : Nat) {t n : Nat} (ht : t < 4) (hn : n ≤ 40) (f2 : F (sh t) 2 = nI n) : ∃ q', rv_EV 106 [.ref 0, .ref (sh t)] (cD S s q F rb) = some (some (.int (b01 (tolS q (F (sn t)) n 0))), cD S s q' F rb) := by
  obtain ⟨⟨N, hN, hs, ok, -⟩, ⟨t1, ht1, e1⟩, hw, h9⟩ := I
  have s90 : ∀ q, rv_EV 15 [.ref (sp 2), .int 9, .int 0] (cD S s q F rb) = some (some (.int (q 50)), cD S s q F rb) := fun q => d_scentIn S s q F rb (t := 9) (c := 0) (by decide) (by decide)
  have at21 : ∀ d k, k + (d + 1) = n → (∃ q', rv_GO rc_X4_comesOutAs 2 [some (.ref 0), some (.ref (sh t)), some (.int (nI (k + 1))), none] [] (cD S s (hoursS 0 q k) F rb) = some (some (.int (b01 (tolS q (F (sn t)) d (k + 1)))), cD S s q' F rb)) → ∃ q', rv_GO rc_X4_comesOutAs 21 [some (.ref 0), some (.ref (sh t)), some (.int (nI k)), none] [] (cD S s (hoursS 0 q k) F rb) = some (some (.int (b01 (tolS q (F (sn t)) (d + 1) k))), cD S s q' F rb) := by
    intro d k hk ⟨q', hq'⟩
    by_cases g1 : F (sn t) k = -1
    · refine ⟨q', ?_⟩
      rw [bk_X4_comesOutAs_21]
      simp only [cb_eq, cb_ne, cb_lt, cb_ge, cb_gt, cb_le, cb_q, cb_qL, ri_s, rl_s, rr_s, rv_s, Option.bind_some, i10, cond_true, cond_false, dHf S s _ F rb ht, dHl S s _ F rb ht (show k < 40 by omega), g1, if_true, nI_1, tolS, true_or]
      exact hq'
    · by_cases g2 : F (sn t) k = hoursS 0 q k 50
      · refine ⟨q', ?_⟩
        rw [bk_X4_comesOutAs_21]
        simp only [cb_eq, cb_ne, cb_lt, cb_ge, cb_gt, cb_le, cb_q, cb_qL, ri_s, rl_s, rr_s, rv_s, Option.bind_some, i10, cond_true, cond_false, dHf S s _ F rb ht, dHl S s _ F rb ht (show k < 40 by omega), dfD2, s90, nI_1, tolS]
        rw [if_neg g1, if_pos g2, if_pos (Or.inr g2)]
        exact hq'
      · refine ⟨hoursS 0 q k, ?_⟩
        rw [bk_X4_comesOutAs_21]
        simp only [cb_eq, cb_ne, cb_lt, cb_ge, cb_gt, cb_le, cb_q, cb_qL, ri_s, rl_s, rr_s, rv_s, Option.bind_some, i10, cond_true, cond_false, dHf S s _ F rb ht, dHl S s _ F rb ht (show k < 40 by omega), dfD2, s90, nI_1, tolS]
        rw [if_neg g1, if_neg g2, if_neg (fun q => q.elim g1 g2)]
        rfl
  have st : ∀ d k, (k + 1) + d = n → ∃ q', rv_GO rc_X4_comesOutAs 2 [some (.ref 0), some (.ref (sh t)), some (.int (nI (k + 1))), none] [] (cD S s (hoursS 0 q k) F rb) = some (some (.int (b01 (tolS q (F (sn t)) d (k + 1)))), cD S s q' F rb) := by
    intro d
    induction d with
    | zero =>
      intro k hk
      have hk : n = k + 1 := by omega
      refine ⟨hoursS 0 q k, ?_⟩
      rw [bk_X4_comesOutAs_2]
      simp only [cb_eq, cb_ne, cb_lt, cb_ge, cb_gt, cb_le, cb_q, cb_qL, ri_s, rl_s, rr_s, rv_s, Option.bind_some, i10, cond_true, cond_false, dH2 S s _ F rb ht, f2, hk, Int32.le_refl, if_true]
      rfl
    | succ d ih =>
      intro k hk
      obtain ⟨h1, h2⟩ := hoursS_ok (gone := 0) hN hs ok k
      have hp := d_passHour S s (hoursS 0 q k) F rb hN h2 h1 (hoursS_w hN hs ok hw k) (by rw [hoursS_1 e1 k, nI_1]; exact nI_le (a := t1 + k + 1) (b := 99999) (by omega) (by decide))
      rw [hoursS_96 hN hs ok k, h9] at hp
      obtain ⟨q', hq'⟩ := at21 d (k + 1) (by omega) (ih (k + 1) (by omega))
      refine ⟨q', ?_⟩
      rw [bk_X4_comesOutAs_2]
      simp only [cb_eq, cb_ne, cb_lt, cb_ge, cb_gt, cb_le, cb_q, cb_qL, ri_s, rl_s, rr_s, rv_s, Option.bind_some, i10, cond_true, cond_false, dH2 S s _ F rb ht, f2, nI_ge (show k + 1 < n by omega) (show n < 2 ^ 31 by omega), nI_nle (show 0 < k + 1 by omega) (show k + 1 < 2 ^ 31 by omega), if_false, dfD2, hp]
      exact hq'
  rw [ev_X4_comesOutAs _ _ _ (obE S s q F rb), bk_X4_comesOutAs_2]
  simp only [cb_eq, cb_ne, cb_lt, cb_ge, cb_gt, cb_le, cb_q, cb_qL, ri_s, rl_s, rr_s, rv_s, Option.bind_some, i10, cond_true, cond_false, dH2 S s _ F rb ht, f2, show (0 : Int32) ≤ 0 from by decide, if_true]
  cases n with
  | zero =>
    refine ⟨q, ?_⟩
    rw [if_pos (by decide)]
    rfl
  | succ n =>
    obtain ⟨q', hq'⟩ := at21 n 0 (by omega) (st n 0 (by omega))
    refine ⟨q', ?_⟩
    rw [if_neg (nI_nle (by omega) (by omega))]
    exact hq'
theorem s_fits {h : Nat} {A : Nat → Nat → Int32} {r : Nat → Int32} {S F : Nat → Nat → Int32} {rb : Nat} {s : Nat → Int32} (R : Rel h A r S F s) (hh : h ≤ 30000) (x y : Int32) : Sim h 167 75 [.int x, .int y] A r S F rb s := by
  obtain ⟨N, hN, hs, ok, -⟩ := R.1.1
  rcases she_3 R.2.2.2.1 x with g | ⟨t, ht, rfl, a, f⟩ | ⟨t, b, n, ht, rfl, hb, hn, a7, f1, a8, f2, a9⟩
  · refine sim_f R (k := 0) (x := -1000001) (by decide) ?_ ?_
    · rw [ev_X5_fits _ _ _ _ (obR A s r), ev_X5_wantsFor _ _ _ _ (obR A s r)]
      simp only [cb_eq, cb_ne, cb_lt, cb_ge, cb_gt, cb_le, cb_q, cb_qL, ri_s, rl_s, rr_s, rv_s, Option.bind_some, i10, cond_true, cond_false, r_wants0 A s r g, r_f0, show ¬ (-1000001 : Int32) = 0 from by decide, if_false]
    · rw [ev_X4_fits _ _ _ _ (obD S 0 s F rb)]
      simp only [cb_eq, cb_ne, cb_lt, cb_ge, cb_gt, cb_le, cb_q, cb_qL, ri_s, rl_s, rr_s, rv_s, Option.bind_some, i10, cond_true, cond_false, c_lack0 S s F rb g, show ¬ (0 : Int32) = -1 from by decide, if_false, c_f0]
  · refine sim_f R (k := 5) (x := -1000006) (by decide) ?_ ?_
    · rw [ev_X5_fits _ _ _ _ (obR A s r), ev_X5_wantsFor _ _ _ _ (obR A s r)]
      simp only [cb_eq, cb_ne, cb_lt, cb_ge, cb_gt, cb_le, cb_q, cb_qL, ri_s, rl_s, rr_s, rv_s, Option.bind_some, i10, cond_true, cond_false, r_wants A s r ht, a, show ¬ (0 : Int32) ≤ -1 from by decide, r_f5, show ¬ (-1000006 : Int32) = 0 from by decide, if_false]
    · rw [ev_X4_fits _ _ _ _ (obD S 0 s F rb)]
      simp only [cb_eq, cb_ne, cb_lt, cb_ge, cb_gt, cb_le, cb_q, cb_qL, ri_s, rl_s, rr_s, rv_s, Option.bind_some, i10, cond_true, cond_false, c_lack S s F rb ht, f, if_true, show ¬ (5 : Int32) = -1 from by decide, if_false, c_f5]
  · have bz := b_nz hb
    by_cases g : 0 ≤ y ∧ y < s 0
    · obtain ⟨b, hb, rfl⟩ := ix_rg (n := N) (by omega) g.1 (by rw [← hs]; exact g.2)
      have hb8 : b < 8 := by omega
      have L : ∀ (d o : Nat) (set z : Int32) (p q : Nat → Int32), o + d = 4 → ∃ x' p' q', rv_GO rc_X5_couldBe 25 [some (.ref 0), some (.int (nI t)), none, some (.int 2), some (.int (nI (54 + 4 * b + 2))), some (.int (s (54 + 4 * b + 2))), some (.int set), some (.int (nI o))] [] (mR (upA A 4 p) (upd s (54 + 4 * b + 2) z) r) = some (some (.int x'), mR (upA A 4 p') s r) ∧ rv_GO rc_X4_fits 40 [some (.ref 0), some (.int (nI t)), some (.int (nI b)), none, some (.int set), some (.int (nI o))] [] (cD S s q F rb) = some (some (.int x'), cD S s q' F rb) := by
        intro d
        induction d with
        | zero =>
          intro o set z p q ho
          have ho : o = 4 := by omega
          subst ho
          refine ⟨set, p, q, ?_, ?_⟩
          · rw [bk_X5_couldBe_25]
            have mg := m_greatestOf (u := 2) (by decide) (mR (upA A 4 p) (upd s (54 + 4 * b + 2) z) r)
            rw [show nI 2 = 2 from rfl, show mostS 2 = 3 from rfl] at mg
            simp only [cb_eq, cb_ne, cb_lt, cb_ge, cb_gt, cb_le, cb_q, cb_qL, ri_s, rl_s, rr_s, rv_s, Option.bind_some, i10, cond_true, cond_false, mg, show (3 : Int32) < nI 4 from by decide, if_true, lfR, stR _ _ r (show 54 + 4 * b + 2 < 96 by omega), upd_upd, upd_self]
          · rw [bk_X4_fits_40]
            simp only [cb_eq, cb_ne, cb_lt, cb_ge, cb_gt, cb_le, cb_q, cb_qL, ri_s, rl_s, rr_s, rv_s, Option.bind_some, i10, cond_true, cond_false, show (4 : Int32) ≤ nI 4 from by decide, if_true]
        | succ d ih =>
          intro o set z p q ho
          have I' : Inv h (upd s (54 + 4 * b + 2) (nI o)) := Inv_bu R.1 (u := 2) hs hN ok hb (by decide) (nI_le (a := o) (b := 3) (by omega) (by decide)) (by omega)
          obtain ⟨q1, hq1⟩ := d_comesOut hh I' S s F rb ht hn f2
          have it := r_isTold I' (upA A 4 p) r ht hn a8 a9
          rw [upA_upA] at it
          have mg := m_greatestOf (u := 2) (by decide) (mR (upA A 4 p) (upd s (54 + 4 * b + 2) z) r)
          rw [show nI 2 = 2 from rfl, show mostS 2 = 3 from rfl] at mg
          cases ht2 : tolS (upd s (54 + 4 * b + 2) (nI o)) (F (sn t)) n 0 with
          | true =>
            rw [ht2] at it hq1
            obtain ⟨x', p', q', h1, h2⟩ := ih (o + 1) (set ||| (1 <<< (nI o &&& 31))) (nI o) (upd s (54 + 4 * b + 2) (nI o)) q1 (by omega)
            refine ⟨x', p', q', ?_, ?_⟩
            · rw [bk_X5_couldBe_25]
              simp only [cb_eq, cb_ne, cb_lt, cb_ge, cb_gt, cb_le, cb_q, cb_qL, ri_s, rl_s, rr_s, rv_s, Option.bind_some, i10, cond_true, cond_false, mg, show ¬ (3 : Int32) < nI o from nI_nlt (a := 3) (b := o) (by omega) (by decide), if_false, lfR, stR _ _ r (show 54 + 4 * b + 2 < 96 by omega), upd_upd, it, show ¬ b01 true = 0 from by decide, nI_1]
              exact h1
            · rw [bk_X4_fits_40]
              simp only [cb_eq, cb_ne, cb_lt, cb_ge, cb_gt, cb_le, cb_q, cb_qL, ri_s, rl_s, rr_s, rv_s, Option.bind_some, i10, cond_true, cond_false, show ¬ (4 : Int32) ≤ nI o from nI_ge (a := o) (b := 4) (by omega) (by decide), if_false, dfD0, dfD2, dfD3, d_take, df5, dt5 S s s F rb hb8, dQ S s _ F rb ht, hq1, show ¬ b01 true = 0 from by decide, nI_1]
              exact h2
          | false =>
            rw [ht2] at it hq1
            obtain ⟨x', p', q', h1, h2⟩ := ih (o + 1) set (nI o) (upd s (54 + 4 * b + 2) (nI o)) q1 (by omega)
            refine ⟨x', p', q', ?_, ?_⟩
            · rw [bk_X5_couldBe_25]
              simp only [cb_eq, cb_ne, cb_lt, cb_ge, cb_gt, cb_le, cb_q, cb_qL, ri_s, rl_s, rr_s, rv_s, Option.bind_some, i10, cond_true, cond_false, mg, show ¬ (3 : Int32) < nI o from nI_nlt (a := 3) (b := o) (by omega) (by decide), if_false, lfR, stR _ _ r (show 54 + 4 * b + 2 < 96 by omega), upd_upd, it, show b01 false = 0 from by decide, if_true, or_0, nI_1]
              exact h1
            · rw [bk_X4_fits_40]
              simp only [cb_eq, cb_ne, cb_lt, cb_ge, cb_gt, cb_le, cb_q, cb_qL, ri_s, rl_s, rr_s, rv_s, Option.bind_some, i10, cond_true, cond_false, show ¬ (4 : Int32) ≤ nI o from nI_ge (a := o) (b := 4) (by omega) (by decide), if_false, dfD0, dfD2, dfD3, d_take, df5, dt5 S s s F rb hb8, dQ S s _ F rb ht, hq1, show b01 false = 0 from by decide, if_true, nI_1]
              exact h2
      obtain ⟨x', p', q', h1, h2⟩ := L 4 0 0 (s (54 + 4 * b + 2)) (A 4) (S 2) (by omega)
      rw [upA_self, nI_0, upd_self] at h1
      rw [nI_0] at h2
      have e54 : (54 + (4 * nI b)) + 2 = nI (54 + 4 * b + 2) := c54_ b 2
      have cl := c_lack S s F rb ht
      rw [cR_D] at cl
      refine sim_t (x := x') R p' q' ?_ ?_
      · rw [ev_X5_fits _ _ _ _ (obR A s r), ev_X5_wantsFor _ _ _ _ (obR A s r)]
        simp only [cb_eq, cb_ne, cb_lt, cb_ge, cb_gt, cb_le, cb_q, cb_qL, ri_s, rl_s, rr_s, rv_s, Option.bind_some, i10, cond_true, cond_false, r_wants A s r ht, a7, bz.2, if_true, r_isBather]
        rw [if_neg (fun q => q g)]
        simp only [cb_eq, cb_ne, cb_lt, cb_ge, cb_gt, cb_le, cb_q, cb_qL, ri_s, rl_s, rr_s, rv_s, Option.bind_some, i10, cond_true, cond_false, if_true]
        rw [ev_X5_couldBe _ _ _ _ _ (obR A s r)]
        simp only [cb_eq, cb_ne, cb_lt, cb_ge, cb_gt, cb_le, cb_q, cb_qL, ri_s, rl_s, rr_s, rv_s, Option.bind_some, i10, cond_true, cond_false, lfR, e54, ldR A s r (show 54 + 4 * b + 2 < 96 by omega), h1]
      · rw [ev_X4_fits _ _ _ _ (obE S s (S 2) F rb)]
        simp only [cb_eq, cb_ne, cb_lt, cb_ge, cb_gt, cb_le, cb_q, cb_qL, ri_s, rl_s, rr_s, rv_s, Option.bind_some, i10, cond_true, cond_false, cl, f1, bz.1, if_false, if_true, dfD0, d_hasBather, d_f0]
        rw [if_neg (fun q => q g)]
        exact h2
    · refine sim_f R (k := 0) (x := -1000001) (by decide) ?_ ?_
      · rw [ev_X5_fits _ _ _ _ (obR A s r), ev_X5_wantsFor _ _ _ _ (obR A s r)]
        simp only [cb_eq, cb_ne, cb_lt, cb_ge, cb_gt, cb_le, cb_q, cb_qL, ri_s, rl_s, rr_s, rv_s, Option.bind_some, i10, cond_true, cond_false, r_wants A s r ht, a7, bz.2, if_true, r_isBather]
        rw [if_pos g]
        simp only [cb_eq, cb_ne, cb_lt, cb_ge, cb_gt, cb_le, cb_q, cb_qL, ri_s, rl_s, rr_s, rv_s, Option.bind_some, i10, cond_true, cond_false, show ¬ (-1000001 : Int32) = 0 from by decide, if_false, r_f0]
      · rw [ev_X4_fits _ _ _ _ (obD S 0 s F rb)]
        simp only [cb_eq, cb_ne, cb_lt, cb_ge, cb_gt, cb_le, cb_q, cb_qL, ri_s, rl_s, rr_s, rv_s, Option.bind_some, i10, cond_true, cond_false, lfD0, lfD1, lfD2, lfD3, lfD4, lfD5, lfD6, lgD7, lgD8, sgD7, sgD8, c_lack S s F rb ht, f1, bz.1, if_false, if_true, k_hasBather S h03, c_f0]
        exact if_pos g
theorem s_kinds {h : Nat} {A : Nat → Nat → Int32} {r : Nat → Int32} {S F : Nat → Nat → Int32} {rb : Nat} {s : Nat → Int32} (R : Rel h A r S F s) (hh : h ≤ 30000) (x y : Int32) : Sim h 168 76 [.int x, .int y] A r S F rb s := by
  obtain ⟨N, hN, hs, ok, -⟩ := R.1.1
  rcases she_3 R.2.2.2.1 x with g | ⟨t, ht, rfl, a, f⟩ | ⟨t, b, n, ht, rfl, hb, hn, a7, f1, a8, f2, a9⟩
  · refine sim_f R (k := 0) (x := -1000001) (by decide) ?_ ?_
    · rw [ev_X5_kinds _ _ _ _ (obR A s r), ev_X5_wantsFor _ _ _ _ (obR A s r)]
      simp only [cb_eq, cb_ne, cb_lt, cb_ge, cb_gt, cb_le, cb_q, cb_qL, ri_s, rl_s, rr_s, rv_s, Option.bind_some, i10, cond_true, cond_false, r_wants0 A s r g, r_f0, show ¬ (-1000001 : Int32) = 0 from by decide, if_false]
    · rw [ev_X4_kinds _ _ _ _ (obD S 0 s F rb)]
      simp only [cb_eq, cb_ne, cb_lt, cb_ge, cb_gt, cb_le, cb_q, cb_qL, ri_s, rl_s, rr_s, rv_s, Option.bind_some, i10, cond_true, cond_false, c_lack0 S s F rb g, show ¬ (0 : Int32) = -1 from by decide, if_false, c_f0]
  · refine sim_f R (k := 5) (x := -1000006) (by decide) ?_ ?_
    · rw [ev_X5_kinds _ _ _ _ (obR A s r), ev_X5_wantsFor _ _ _ _ (obR A s r)]
      simp only [cb_eq, cb_ne, cb_lt, cb_ge, cb_gt, cb_le, cb_q, cb_qL, ri_s, rl_s, rr_s, rv_s, Option.bind_some, i10, cond_true, cond_false, r_wants A s r ht, a, show ¬ (0 : Int32) ≤ -1 from by decide, r_f5, show ¬ (-1000006 : Int32) = 0 from by decide, if_false]
    · rw [ev_X4_kinds _ _ _ _ (obD S 0 s F rb)]
      simp only [cb_eq, cb_ne, cb_lt, cb_ge, cb_gt, cb_le, cb_q, cb_qL, ri_s, rl_s, rr_s, rv_s, Option.bind_some, i10, cond_true, cond_false, c_lack S s F rb ht, f, if_true, show ¬ (5 : Int32) = -1 from by decide, if_false, c_f5]
  · have bz := b_nz hb
    by_cases g : 0 ≤ y ∧ y < s 0
    · obtain ⟨b, hb, rfl⟩ := ix_rg (n := N) (by omega) g.1 (by rw [← hs]; exact g.2)
      have hb8 : b < 8 := by omega
      have L : ∀ (d o : Nat) (set z : Int32) (p q : Nat → Int32), o + d = 7 → ∃ x' p' q', rv_GO rc_X5_couldBe 25 [some (.ref 0), some (.int (nI t)), none, some (.int 0), some (.int (nI (54 + 4 * b))), some (.int (s (54 + 4 * b))), some (.int set), some (.int (nI o))] [] (mR (upA A 4 p) (upd s (54 + 4 * b) z) r) = some (some (.int x'), mR (upA A 4 p') s r) ∧ rv_GO rc_X4_kinds 40 [some (.ref 0), some (.int (nI t)), some (.int (nI b)), none, some (.int set), some (.int (nI o))] [] (cD S s q F rb) = some (some (.int x'), cD S s q' F rb) := by
        intro d
        induction d with
        | zero =>
          intro o set z p q ho
          have ho : o = 7 := by omega
          subst ho
          refine ⟨set, p, q, ?_, ?_⟩
          · rw [bk_X5_couldBe_25]
            have mg := m_greatestOf (u := 0) (by decide) (mR (upA A 4 p) (upd s (54 + 4 * b) z) r)
            rw [show nI 0 = 0 from rfl, show mostS 0 = 6 from rfl] at mg
            simp only [cb_eq, cb_ne, cb_lt, cb_ge, cb_gt, cb_le, cb_q, cb_qL, ri_s, rl_s, rr_s, rv_s, Option.bind_some, i10, cond_true, cond_false, mg, show (6 : Int32) < nI 7 from by decide, if_true, lfR, stR _ _ r (show 54 + 4 * b < 96 by omega), upd_upd, upd_self]
          · rw [bk_X4_kinds_40]
            simp only [cb_eq, cb_ne, cb_lt, cb_ge, cb_gt, cb_le, cb_q, cb_qL, ri_s, rl_s, rr_s, rv_s, Option.bind_some, i10, cond_true, cond_false, show (7 : Int32) ≤ nI 7 from by decide, if_true]
        | succ d ih =>
          intro o set z p q ho
          have I' : Inv h (upd s (54 + 4 * b) (nI o)) := Inv_bu R.1 (u := 0) hs hN ok hb (by decide) (nI_le (a := o) (b := 6) (by omega) (by decide)) (by omega)
          obtain ⟨q1, hq1⟩ := d_comesOut hh I' S s F rb ht hn f2
          have it := r_isTold I' (upA A 4 p) r ht hn a8 a9
          rw [upA_upA] at it
          have mg := m_greatestOf (u := 0) (by decide) (mR (upA A 4 p) (upd s (54 + 4 * b) z) r)
          rw [show nI 0 = 0 from rfl, show mostS 0 = 6 from rfl] at mg
          cases ht2 : tolS (upd s (54 + 4 * b) (nI o)) (F (sn t)) n 0 with
          | true =>
            rw [ht2] at it hq1
            obtain ⟨x', p', q', h1, h2⟩ := ih (o + 1) (set ||| (1 <<< (nI o &&& 31))) (nI o) (upd s (54 + 4 * b) (nI o)) q1 (by omega)
            refine ⟨x', p', q', ?_, ?_⟩
            · rw [bk_X5_couldBe_25]
              simp only [cb_eq, cb_ne, cb_lt, cb_ge, cb_gt, cb_le, cb_q, cb_qL, ri_s, rl_s, rr_s, rv_s, Option.bind_some, i10, cond_true, cond_false, mg, show ¬ (6 : Int32) < nI o from nI_nlt (a := 6) (b := o) (by omega) (by decide), if_false, lfR, stR _ _ r (show 54 + 4 * b < 96 by omega), upd_upd, it, show ¬ b01 true = 0 from by decide, nI_1]
              exact h1
            · rw [bk_X4_kinds_40]
              simp only [cb_eq, cb_ne, cb_lt, cb_ge, cb_gt, cb_le, cb_q, cb_qL, ri_s, rl_s, rr_s, rv_s, Option.bind_some, i10, cond_true, cond_false, show ¬ (7 : Int32) ≤ nI o from nI_ge (a := o) (b := 7) (by omega) (by decide), if_false, dfD0, dfD2, dfD3, d_take, df3, dt3 S s s F rb hb8, dQ S s _ F rb ht, hq1, show ¬ b01 true = 0 from by decide, nI_1]
              exact h2
          | false =>
            rw [ht2] at it hq1
            obtain ⟨x', p', q', h1, h2⟩ := ih (o + 1) set (nI o) (upd s (54 + 4 * b) (nI o)) q1 (by omega)
            refine ⟨x', p', q', ?_, ?_⟩
            · rw [bk_X5_couldBe_25]
              simp only [cb_eq, cb_ne, cb_lt, cb_ge, cb_gt, cb_le, cb_q, cb_qL, ri_s, rl_s, rr_s, rv_s, Option.bind_some, i10, cond_true, cond_false, mg, show ¬ (6 : Int32) < nI o from nI_nlt (a := 6) (b := o) (by omega) (by decide), if_false, lfR, stR _ _ r (show 54 + 4 * b < 96 by omega), upd_upd, it, show b01 false = 0 from by decide, if_true, or_0, nI_1]
              exact h1
            · rw [bk_X4_kinds_40]
              simp only [cb_eq, cb_ne, cb_lt, cb_ge, cb_gt, cb_le, cb_q, cb_qL, ri_s, rl_s, rr_s, rv_s, Option.bind_some, i10, cond_true, cond_false, show ¬ (7 : Int32) ≤ nI o from nI_ge (a := o) (b := 7) (by omega) (by decide), if_false, dfD0, dfD2, dfD3, d_take, df3, dt3 S s s F rb hb8, dQ S s _ F rb ht, hq1, show b01 false = 0 from by decide, if_true, nI_1]
              exact h2
      obtain ⟨x', p', q', h1, h2⟩ := L 7 0 0 (s (54 + 4 * b)) (A 4) (S 2) (by omega)
      rw [upA_self, nI_0, upd_self] at h1
      rw [nI_0] at h2
      have e54 : (54 + (4 * nI b)) + 0 = nI (54 + 4 * b) := c54_ b 0
      have cl := c_lack S s F rb ht
      rw [cR_D] at cl
      refine sim_t (x := x') R p' q' ?_ ?_
      · rw [ev_X5_kinds _ _ _ _ (obR A s r), ev_X5_wantsFor _ _ _ _ (obR A s r)]
        simp only [cb_eq, cb_ne, cb_lt, cb_ge, cb_gt, cb_le, cb_q, cb_qL, ri_s, rl_s, rr_s, rv_s, Option.bind_some, i10, cond_true, cond_false, r_wants A s r ht, a7, bz.2, if_true, r_isBather]
        rw [if_neg (fun q => q g)]
        simp only [cb_eq, cb_ne, cb_lt, cb_ge, cb_gt, cb_le, cb_q, cb_qL, ri_s, rl_s, rr_s, rv_s, Option.bind_some, i10, cond_true, cond_false, if_true]
        rw [ev_X5_couldBe _ _ _ _ _ (obR A s r)]
        simp only [cb_eq, cb_ne, cb_lt, cb_ge, cb_gt, cb_le, cb_q, cb_qL, ri_s, rl_s, rr_s, rv_s, Option.bind_some, i10, cond_true, cond_false, lfR, e54, ldR A s r (show 54 + 4 * b < 96 by omega), h1]
      · rw [ev_X4_kinds _ _ _ _ (obE S s (S 2) F rb)]
        simp only [cb_eq, cb_ne, cb_lt, cb_ge, cb_gt, cb_le, cb_q, cb_qL, ri_s, rl_s, rr_s, rv_s, Option.bind_some, i10, cond_true, cond_false, cl, f1, bz.1, if_false, if_true, dfD0, d_hasBather, d_f0]
        rw [if_neg (fun q => q g)]
        exact h2
    · refine sim_f R (k := 0) (x := -1000001) (by decide) ?_ ?_
      · rw [ev_X5_kinds _ _ _ _ (obR A s r), ev_X5_wantsFor _ _ _ _ (obR A s r)]
        simp only [cb_eq, cb_ne, cb_lt, cb_ge, cb_gt, cb_le, cb_q, cb_qL, ri_s, rl_s, rr_s, rv_s, Option.bind_some, i10, cond_true, cond_false, r_wants A s r ht, a7, bz.2, if_true, r_isBather]
        rw [if_pos g]
        simp only [cb_eq, cb_ne, cb_lt, cb_ge, cb_gt, cb_le, cb_q, cb_qL, ri_s, rl_s, rr_s, rv_s, Option.bind_some, i10, cond_true, cond_false, show ¬ (-1000001 : Int32) = 0 from by decide, if_false, r_f0]
      · rw [ev_X4_kinds _ _ _ _ (obD S 0 s F rb)]
        simp only [cb_eq, cb_ne, cb_lt, cb_ge, cb_gt, cb_le, cb_q, cb_qL, ri_s, rl_s, rr_s, rv_s, Option.bind_some, i10, cond_true, cond_false, lfD0, lfD1, lfD2, lfD3, lfD4, lfD5, lfD6, lgD7, lgD8, sgD7, sgD8, c_lack S s F rb ht, f1, bz.1, if_false, if_true, k_hasBather S h03, c_f0]
        exact if_pos g
