/-! THE CALLS: feed, needed -/
theorem rel_tape {h : Nat} {A : Nat → Nat → Int32} {r : Nat → Int32} {S F : Nat → Nat → Int32} {s : Nat → Int32} (R : Rel h A r S F s) {A' : Nat → Nat → Int32} {r' : Nat → Int32} {F' : Nat → Nat → Int32} (ea : ∀ p, ¬ p = 3 → ¬ p = 4 → ¬ p = 6 → A' p = A p) (er : r' 4 = r 4) (ef : ∀ p, ¬ p = 0 → ¬ p = 34 → ¬ p = 35 → F' p = F p) (e8 : F' 0 8 = F 0 8) (ht : tapR A' r' F') : Rel h A' r' S F' s := by
  obtain ⟨h1, h2, h3, h4, h5⟩ := R
  refine ⟨h1, ?_, ht, fun i hi => ?_, ?_⟩
  · unfold kepR at h2 ⊢
    rw [ea 2 (by decide) (by decide) (by decide), er, e8]
    exact h2
  · have q := h4 i hi
    unfold sheR at q ⊢
    rw [ea 7 (by decide) (by decide) (by decide), ea 8 (by decide) (by decide) (by decide), ea 9 (by decide) (by decide) (by decide), ef (sh i) (by unfold sh; omega) (by unfold sh; omega) (by unfold sh; omega), ef (sn i) (by unfold sn; omega) (by unfold sn; omega) (by unfold sn; omega)]
    exact q
  · unfold fndR at h5 ⊢
    rw [ea 5 (by decide) (by decide) (by decide), ef 37 (by decide) (by decide) (by decide)]
    exact h5
def remI : Nat → Int32
  | 0 => -1
  | j + 1 => nI j
theorem remI_1 (j : Nat) : remI (j + 1) + (-1) = remI j := by
  cases j with
  | zero => decide
  | succ j => exact pk_m1 j
theorem i8_ext {x y : Int32} (h : ∀ i, i < 8 → x.toBitVec.getLsbD i = y.toBitVec.getLsbD i) : x.toInt8 = y.toInt8 := by
  apply Int8.toBitVec_inj.mp
  apply BitVec.eq_of_getLsbD_eq
  intro i hi
  have e : ∀ z : Int32, z.toInt8.toBitVec.getLsbD i = z.toBitVec.getLsbD i := by
    intro z
    show (z.toBitVec.signExtend 8).getLsbD i = _
    rw [BitVec.getLsbD_signExtend]
    simp [hi, show i < 32 by omega]
  rw [e, e]
  exact h i hi
theorem i8_i8 (x : Int32) : x.toInt8.toInt32.toInt8 = x.toInt8 := by simp
theorem byte_eq (v : Int32) {j : Nat} (hj : j < 4) : ((v >>> ((8 * nI j) &&& 31)) &&& 255).toInt8 = (Int32.toUInt32 v >>> (Int32.toUInt32 (8 * nI j) &&& Int32.toUInt32 31)).toInt32.toInt8 := by
  apply i8_ext
  intro i hi
  rw [Int32.toBitVec_and, BitVec.getLsbD_and]
  have e255 : (255 : Int32).toBitVec.getLsbD i = true := by
    have : ∀ i : Fin 8, (255 : Int32).toBitVec.getLsbD i.val = true := by decide
    exact this ⟨i, hi⟩
  rw [e255, Bool.and_true]
  have e1 : (v >>> ((8 * nI j) &&& 31)).toBitVec.getLsbD i = v.toBitVec.getLsbD (8 * j + i) := by
    rw [Int32.toBitVec_shiftRight]
    have : ∀ j : Fin 4, ((8 * nI j.val) &&& 31).toBitVec.smod 32 = BitVec.ofNat 32 (8 * j.val) := by decide
    rw [this ⟨j, hj⟩, BitVec.sshiftRight_eq', BitVec.getLsbD_sshiftRight]
    have tn : (BitVec.ofNat 32 (8 * j)).toNat = 8 * j := by
      rw [BitVec.toNat_ofNat, Nat.mod_eq_of_lt (by omega)]
    rw [tn]
    simp [show 8 * j + i < 32 by omega, show ¬ 32 ≤ i by omega]
  have e2 : (Int32.toUInt32 v >>> (Int32.toUInt32 (8 * nI j) &&& Int32.toUInt32 31)).toInt32.toBitVec.getLsbD i = v.toBitVec.getLsbD (8 * j + i) := by
    show (Int32.toUInt32 v >>> (Int32.toUInt32 (8 * nI j) &&& Int32.toUInt32 31)).toBitVec.getLsbD i = _
    rw [UInt32.toBitVec_shiftRight]
    have : ∀ j : Fin 4, (Int32.toUInt32 (8 * nI j.val) &&& Int32.toUInt32 31).toBitVec % 32 = BitVec.ofNat 32 (8 * j.val) := by decide
    rw [this ⟨j, hj⟩, BitVec.ushiftRight_eq', BitVec.getLsbD_ushiftRight]
    have tn : (BitVec.ofNat 32 (8 * j)).toNat = 8 * j := by
      rw [BitVec.toNat_ofNat, Nat.mod_eq_of_lt (by omega)]
    rw [tn]
    rfl
  rw [e1, e2]
theorem stDT (S : Nat → Nat → Int32) (j : Nat) (s : Nat → Int32) (F : Nat → Nat → Int32) (rb : Nat) {k : Nat} (h : k < 120) (x : Int32) : rv_stB (cR S j s F rb) 34 (nI k) x = some (cR S j s (upB F 34 k x.toInt8.toInt32) rb) := stT _ F rb h x
theorem feed_L {h : Nat} {S : Nat → Nat → Int32} {rb : Nat} {s : Nat → Int32} (v : Int32) : ∀ (j : Nat) (A : Nat → Nat → Int32) (r : Nat → Int32) (F : Nat → Nat → Int32) (n : Nat), Rel h A r S F s → r 7 = nI n → F 0 7 = nI n → n + j ≤ 120 → j ≤ 4 → ∃ x A' r' F', rv_GO rc_X5_feed 41 [some (.ref 0), some (.int v), none, some (.int (remI j))] [] (mR A s r) = some (some (.int x), mR A' s r') ∧ rv_GO rc_X4_feed 37 [some (.ref 0), some (.int v), none, some (.int (remI j))] [] (cR S 0 s F rb) = some (some (.int x), cR S 0 s F' rb) ∧ Rel h A' r' S F' s := by
  intro j
  induction j with
  | zero =>
    intro A r F n R e1 e2 hn _
    refine ⟨nI n, A, r, F, ?_, ?_, R⟩
    · rw [bk_X5_feed_41]
      simp only [cb_eq, cb_ne, cb_lt, cb_ge, cb_gt, cb_le, cb_q, cb_qL, ri_s, rl_s, rr_s, rv_s, Option.bind_some, i10, cond_true, cond_false, lgR4, sgR4, lgR7, sgR7, lgR11, sgR11, lgR12, sgR12, lgR13, sgR13, lgR14, sgR14, lgR15, sgR15, lfR_1, lfR_2, lfR_3, lfR_5, lfR_6, lfR_8, lfR_9, lfR_10, remI, m1_lt, if_true, e1]
    · rw [bk_X4_feed_37]
      simp only [cb_eq, cb_ne, cb_lt, cb_ge, cb_gt, cb_le, cb_q, cb_qL, ri_s, rl_s, rr_s, rv_s, Option.bind_some, i10, cond_true, cond_false, lfD0, lfD1, lfD2, lfD3, lfD4, lfD5, lfD6, lgD7, lgD8, sgD7, sgD8, remI, m1_lt, if_true, e2]
  | succ j ih =>
    intro A r F n R e1 e2 hn hj
    have m : ∃ m, m < 256 ∧ (v >>> ((8 * nI j) &&& 31)) &&& 255 = nI m := ⟨_, Nat.mod_lt _ (by decide), pk_and _ 8 rfl⟩
    have R' : Rel h (upB A 6 n ((v >>> ((8 * nI j) &&& 31)) &&& 255)) (upd r 7 (nI (n + 1))) S (upB (upB F 34 n (Int32.toUInt32 v >>> (Int32.toUInt32 (8 * nI j) &&& Int32.toUInt32 31)).toInt32.toInt8.toInt32.toInt8.toInt32) 0 7 (nI (n + 1))) s := by
      refine rel_tape R (fun p _ _ h6 => upA_n A h6 _) rfl (fun p h0 h34 _ => ?_) rfl ?_
      · unfold upB
        rw [upA_n _ h0, upA_n _ h34]
      · obtain ⟨n', hn', a1, a2, a3⟩ := R.2.2.1
        have en : n' = n := (nI_eq (by omega) (by omega)).mp (a1.symm.trans e1)
        subst en
        refine ⟨n' + 1, by omega, rfl, rfl, fun k hk => ?_⟩
        unfold upB
        rw [upA_s, upA_n _ (by decide), upA_s]
        by_cases e : k = n'
        · subst e
          rw [pk_us, pk_us]
          refine ⟨m, ?_⟩
          rw [i8_i8, byte_eq v (by omega)]
        · rw [pk_un e, pk_un e]
          exact a3 k (by omega)
    obtain ⟨x, A', r', F', h1, h2, h3⟩ := ih _ _ _ (n + 1) R' rfl rfl (by omega) (by omega)
    refine ⟨x, A', r', F', ?_, ?_, h3⟩
    · rw [bk_X5_feed_41]
      simp only [cb_eq, cb_ne, cb_lt, cb_ge, cb_gt, cb_le, cb_q, cb_qL, ri_s, rl_s, rr_s, rv_s, Option.bind_some, i10, cond_true, cond_false, lgR4, sgR4, lgR7, sgR7, lgR11, sgR11, lgR12, sgR12, lgR13, sgR13, lgR14, sgR14, lgR15, sgR15, lfR_1, lfR_2, lfR_3, lfR_5, lfR_6, lfR_8, lfR_9, lfR_10, e1, stR6 _ s r (show n < 120 by omega), nI_1, remI_1]
      simp only [remI, show ¬ nI j < 0 from Int32.not_lt.mpr (nI_pos' (by omega)), if_false]
      exact h1
    · rw [bk_X4_feed_37]
      simp only [cb_eq, cb_ne, cb_lt, cb_ge, cb_gt, cb_le, cb_q, cb_qL, ri_s, rl_s, rr_s, rv_s, Option.bind_some, i10, cond_true, cond_false, lfD0, lfD1, lfD2, lfD3, lfD4, lfD5, lfD6, lgD7, lgD8, sgD7, sgD8, e2, stDT S 0 s _ rb (show n < 120 by omega), nI_1, remI_1]
      rw [show upB F 34 n (Int32.toUInt32 v >>> (Int32.toUInt32 (8 * remI (j + 1)) &&& Int32.toUInt32 31)).toInt32.toInt8.toInt32.toInt8.toInt32 0 7 = nI n from e2, nI_1]
      simp only [remI, show ¬ nI j < 0 from Int32.not_lt.mpr (nI_pos' (by omega)), if_false]
      exact h2
theorem s_feed {h : Nat} {A : Nat → Nat → Int32} {r : Nat → Int32} {S F : Nat → Nat → Int32} {rb : Nat} {s : Nat → Int32} (R : Rel h A r S F s) (x y : Int32) : Sim h 172 80 [.int x, .int y] A r S F rb s := by
  obtain ⟨n, hn, e1, e2, -⟩ := R.2.2.1
  by_cases g : 1 ≤ y ∧ y ≤ 4
  · have hy0 : 0 ≤ y := Int32.le_trans (by decide) g.1
    obtain ⟨k, hk, rfl⟩ := ix_le (n := 4) (by decide) hy0 g.2
    have hk1 : 1 ≤ k := (nI_leI (a := 1) (by decide) (by omega)).mp g.1
    have ek : nI k - 1 = remI k := by
      obtain ⟨j, rfl⟩ : ∃ j, k = j + 1 := ⟨k - 1, by omega⟩
      exact nI_pred j
    have q1 : (nI n + nI k ≤ 120) = (n + k ≤ 120) := by rw [nI_add]; exact propext (nI_leI (a := n + k) (b := 120) (by omega) (by decide))
    have q2 : (nI n ≤ 120 - nI k) = (n + k ≤ 120) := by
      rw [show (120 : Int32) = nI 120 from rfl, pk_sub (by omega), nI_leI (by omega) (by omega)]
      exact propext (by omega)
    by_cases le : n + k ≤ 120
    · obtain ⟨v, A', r', F', h1, h2, h3⟩ := feed_L (rb := rb) x k A r F n R e1 e2 le hk
      refine ⟨.int v, A', r', S, F', rb, s, ?_, ?_, h3, ⟨v, rfl⟩⟩
      · rw [ev_X5_feed _ _ _ _ (obR A s r)]
        simp only [cb_eq, cb_ne, cb_lt, cb_ge, cb_gt, cb_le, cb_q, cb_qL, ri_s, rl_s, rr_s, rv_s, Option.bind_some, i10, cond_true, cond_false, lgR4, sgR4, lgR7, sgR7, lgR11, sgR11, lgR12, sgR12, lgR13, sgR13, lgR14, sgR14, lgR15, sgR15, lfR_1, lfR_2, lfR_3, lfR_5, lfR_6, lfR_8, lfR_9, lfR_10, m_isIn, r_f0, e1, q1, le, if_true, ek]
        exact (if1y g _ _).trans h1
      · rw [ev_X4_feed _ _ _ _ (obD S 0 s F rb)]
        simp only [cb_eq, cb_ne, cb_lt, cb_ge, cb_gt, cb_le, cb_q, cb_qL, ri_s, rl_s, rr_s, rv_s, Option.bind_some, i10, cond_true, cond_false, lfD0, lfD1, lfD2, lfD3, lfD4, lfD5, lfD6, lgD7, lgD8, sgD7, sgD8, e2, q2, le, if_true, ek, g.2, show ¬ nI k < 1 from Int32.not_lt.mpr g.1, if_false]
        exact h2
    · refine sim_f R (k := 1) (x := -1000002) (by decide) ?_ ?_
      · rw [ev_X5_feed _ _ _ _ (obR A s r)]
        simp only [cb_eq, cb_ne, cb_lt, cb_ge, cb_gt, cb_le, cb_q, cb_qL, ri_s, rl_s, rr_s, rv_s, Option.bind_some, i10, cond_true, cond_false, lgR4, sgR4, lgR7, sgR7, lgR11, sgR11, lgR12, sgR12, lgR13, sgR13, lgR14, sgR14, lgR15, sgR15, lfR_1, lfR_2, lfR_3, lfR_5, lfR_6, lfR_8, lfR_9, lfR_10, m_isIn, r_f0, r_f1, e1, q1, le, if_false]
        exact if1y g _ _
      · rw [ev_X4_feed _ _ _ _ (obD S 0 s F rb)]
        simp only [cb_eq, cb_ne, cb_lt, cb_ge, cb_gt, cb_le, cb_q, cb_qL, ri_s, rl_s, rr_s, rv_s, Option.bind_some, i10, cond_true, cond_false, lfD0, lfD1, lfD2, lfD3, lfD4, lfD5, lfD6, lgD7, lgD8, sgD7, sgD8, e2, q2, le, c_f1, g.2, if_true, show ¬ nI k < 1 from Int32.not_lt.mpr g.1, if_false]
  · have g' : y < 1 ∨ (¬ y < 1 ∧ ¬ y ≤ 4) := by
      by_cases e : y < 1
      · exact Or.inl e
      · exact Or.inr ⟨e, fun q => g ⟨Int32.not_lt.mp e, q⟩⟩
    refine sim_f R (k := 0) (x := -1000001) (by decide) ?_ ?_
    · rw [ev_X5_feed _ _ _ _ (obR A s r)]
      simp only [cb_eq, cb_ne, cb_lt, cb_ge, cb_gt, cb_le, cb_q, cb_qL, ri_s, rl_s, rr_s, rv_s, Option.bind_some, i10, cond_true, cond_false, m_isIn, r_f0]
      exact if1n g _ _
    · rw [ev_X4_feed _ _ _ _ (obD S 0 s F rb)]
      simp only [cb_eq, cb_ne, cb_lt, cb_ge, cb_gt, cb_le, cb_q, cb_qL, ri_s, rl_s, rr_s, rv_s, Option.bind_some, i10, cond_true, cond_false, lfD0, lfD1, lfD2, lfD3, lfD4, lfD5, lfD6, lgD7, lgD8, sgD7, sgD8, c_f0]
      rcases g' with e | ⟨e1, e2⟩
      · rw [if_pos e]
      · rw [if_neg e1, if_neg e2]
/-! needed -/
def lefN (m : Nat) : Nat → Nat
  | 0 => m
  | n + 1 => lefN m n * 3 / 4
theorem lefN_le (m : Nat) : ∀ n, lefN m n ≤ m
  | 0 => Nat.le_refl _
  | n + 1 => by
    have := lefN_le m n
    rw [lefN]
    omega
theorem lefS_N {m : Nat} (hm : m ≤ 20000) : ∀ n, lefS (nI m) n = nI (lefN m n)
  | 0 => rfl
  | n + 1 => by
    have := lefN_le m n
    rw [lefS, lefS_N hm n, lefN, show (3 : Int32) = nI 3 from rfl, pk_mul, show (4 : Int32) = nI 4 from rfl, pk_div (by omega) (by decide) (by decide)]
def nedN (v : Nat) : Nat → Nat
  | 0 => v
  | n + 1 => (4 * nedN v n + 2) / 3
/-- three quarters, cut, n times, are at least v just from here on -/
theorem ned_iff (v : Nat) : ∀ n m, v ≤ lefN m n ↔ nedN v n ≤ m
  | 0, m => Iff.rfl
  | n + 1, m => by
    rw [lefN, nedN]
    have e : ∀ m n, lefN (m * 3 / 4) n = lefN m n * 3 / 4 := by
      intro m n
      induction n with
      | zero => rfl
      | succ n ih => rw [lefN, ih, lefN]
    rw [← e, ned_iff v n]
    omega
theorem nedN_lt {v : Nat} (hv : v ≤ 500) : ∀ n, n ≤ 9 → nedN v n ≤ 20000 := by
  have st : ∀ n, ∃ b, nedN v n ≤ b ∧ b = nedN 500 n := by
    intro n
    refine ⟨_, ?_, rfl⟩
    induction n with
    | zero => exact hv
    | succ n ih => rw [nedN, nedN]; omega
  intro n hn
  obtain ⟨b, h1, h2⟩ := st n
  have : ∀ n : Fin 10, nedN 500 n.val ≤ 20000 := by decide
  have := this ⟨n, by omega⟩
  simp only [] at this
  omega
theorem c_need (S : Nat → Nat → Int32) (s : Nat → Int32) (F : Nat → Nat → Int32) (rb : Nat) {v n : Nat} (hv : v ≤ 500) (hn : n ≤ 9) : rv_GO rc_X4_needed 30 [some (.ref 0), none, some (.int (nI n)), some (.int (nI v)), some (.int 0)] [] (cR S 0 s F rb) = if nedN v n ≤ 9999 then some (some (.int (nI (nedN v n))), cR S 0 s F rb) else some (some (.int (-1000004)), cR S 0 s (cfd F 3) rb) := by
  have st : ∀ k, k ≤ n → rv_GO rc_X4_needed 30 [some (.ref 0), none, some (.int (nI n)), some (.int (nI v)), some (.int 0)] [] (cR S 0 s F rb) = rv_GO rc_X4_needed 30 [some (.ref 0), none, some (.int (nI n)), some (.int (nI (nedN v k))), some (.int (nI k))] [] (cR S 0 s F rb) := by
    intro k
    induction k with
    | zero => intro _; rfl
    | succ k ih =>
      intro hk
      have := nedN_lt hv k (by omega)
      have e : (4 * nI (nedN v k) + 2) / 3 = nI (nedN v (k + 1)) := by
        rw [nedN, show (3 : Int32) = nI 3 from rfl, show (4 : Int32) = nI 4 from rfl, show (2 : Int32) = nI 2 from rfl, pk_mul, nI_add, pk_div (by omega) (by decide) (by decide)]
      rw [ih (by omega), bk_X4_needed_30]
      simp only [cb_eq, cb_ne, cb_lt, cb_ge, cb_gt, cb_le, cb_q, cb_qL, ri_s, rl_s, rr_s, rv_s, Option.bind_some, i10, cond_true, cond_false, nI_ge (show k < n by omega) (show n < 2 ^ 31 by omega), if_false, show ¬ (3 : Int32) = 0 from by decide, e, nI_1]
  have := nedN_lt hv n hn
  rw [st n (Nat.le_refl _), bk_X4_needed_30]
  simp only [cb_eq, cb_ne, cb_lt, cb_ge, cb_gt, cb_le, cb_q, cb_qL, ri_s, rl_s, rr_s, rv_s, Option.bind_some, i10, cond_true, cond_false, Int32.le_refl, if_true, c_f3]
  by_cases le : nedN v n ≤ 9999
  · rw [if_pos le, if_pos (show nI (nedN v n) ≤ 9999 from nI_le (a := nedN v n) (b := 9999) le (by decide))]
  · rw [if_neg le, if_neg (show ¬ nI (nedN v n) ≤ 9999 from nI_ge (a := 9999) (b := nedN v n) (by omega) (by omega))]
theorem r_need (A : Nat → Nat → Int32) (s r : Nat → Int32) {v n : Nat} (hv : v ≤ 500) (hn : n ≤ 9) : rv_GO rc_X5_needed 33 [some (.ref 0), some (.int (nI v)), some (.int (nI n)), some (.int 0)] [] (mR A s r) = if nedN v n ≤ 9999 then some (some (.int (nI (nedN v n))), mR A s r) else some (some (.int (-1000004)), mR (fnd A 3) s r) := by
  have st : ∀ d k, k + d = 10000 → k ≤ nedN v n → rv_GO rc_X5_needed 33 [some (.ref 0), some (.int (nI v)), some (.int (nI n)), some (.int (nI k))] [] (mR A s r) = if nedN v n ≤ 9999 then some (some (.int (nI (nedN v n))), mR A s r) else some (some (.int (-1000004)), mR (fnd A 3) s r) := by
    intro d
    induction d with
    | zero =>
      intro k hk hk2
      have g : (9999 : Int32) < nI k := nI_lt (a := 9999) (b := k) (by omega) (by omega)
      rw [bk_X5_needed_33]
      simp only [cb_eq, cb_ne, cb_lt, cb_ge, cb_gt, cb_le, cb_q, cb_qL, ri_s, rl_s, rr_s, rv_s, Option.bind_some, i10, cond_true, cond_false, g, if_true, bk_X5_needed_55, r_f3]
      rw [if_neg (by omega)]
    | succ d ih =>
      intro k hk hk2
      have g : ¬ (9999 : Int32) < nI k := nI_nlt (a := 9999) (b := k) (by omega) (by omega)
      have := lefN_le k n
      rw [bk_X5_needed_33]
      simp only [cb_eq, cb_ne, cb_lt, cb_ge, cb_gt, cb_le, cb_q, cb_qL, ri_s, rl_s, rr_s, rv_s, Option.bind_some, i10, cond_true, cond_false, g, if_false, m_leftOf (nI k) (show n < 2 ^ 31 by omega), lefS_N (show k ≤ 20000 by omega), bk_X5_needed_55, nI_1]
      by_cases le : v ≤ lefN k n
      · rw [if_pos (nI_le le (by omega))]
        have := (ned_iff v n k).mp le
        have : nedN v n = k := by omega
        rw [this, if_pos (by omega)]
      · rw [if_neg (nI_ge (by omega) (by omega))]
        have : ¬ nedN v n ≤ k := fun q => le ((ned_iff v n k).mpr q)
        exact ih (k + 1) (by omega) (by omega)
  exact st 10000 0 rfl (Nat.zero_le _)
theorem s_needed {h : Nat} {A : Nat → Nat → Int32} {r : Nat → Int32} {S F : Nat → Nat → Int32} {rb : Nat} {s : Nat → Int32} (R : Rel h A r S F s) (x y : Int32) : Sim h 154 67 [.int x, .int y] A r S F rb s := by
  by_cases g : (0 ≤ x ∧ x ≤ 500) ∧ (0 ≤ y ∧ y ≤ 9)
  · obtain ⟨v, hv, rfl⟩ := ix_le (n := 500) (by decide) g.1.1 g.1.2
    obtain ⟨n, hn, rfl⟩ := ix_le (n := 9) (by decide) g.2.1 g.2.2
    have m0 : rv_EV 154 (.ref 0 :: [.int (nI v), .int (nI n)]) (mR A s r) = if nedN v n ≤ 9999 then some (some (.int (nI (nedN v n))), mR A s r) else some (some (.int (-1000004)), mR (fnd A 3) s r) := by
      rw [ev_X5_needed _ _ _ _ (obR A s r)]
      simp only [cb_eq, cb_ne, cb_lt, cb_ge, cb_gt, cb_le, cb_q, cb_qL, ri_s, rl_s, rr_s, rv_s, Option.bind_some, i10, cond_true, cond_false, m_isIn, r_f0, r_need A s r hv hn]
      exact if2y g _ _
    have c0 : rv_EV 67 (.ref 0 :: [.int (nI v), .int (nI n)]) (cR S 0 s F rb) = if nedN v n ≤ 9999 then some (some (.int (nI (nedN v n))), cR S 0 s F rb) else some (some (.int (-1000004)), cR S 0 s (cfd F 3) rb) := by
      rw [ev_X4_needed _ _ _ _ (obD S 0 s F rb)]
      simp only [cb_eq, cb_ne, cb_lt, cb_ge, cb_gt, cb_le, cb_q, cb_qL, ri_s, rl_s, rr_s, rv_s, Option.bind_some, i10, cond_true, cond_false, c_isWithin, c_f0, c_need S s F rb hv hn]
      exact if2y g _ _
    by_cases le : nedN v n ≤ 9999
    · rw [if_pos le] at m0 c0
      exact sim_r R (Nat.le_refl _) m0 c0 R.1
    · rw [if_neg le] at m0 c0
      exact sim_f R (k := 3) (by decide) m0 c0
  · refine sim_f R (k := 0) (x := -1000001) (by decide) ?_ ?_
    · rw [ev_X5_needed _ _ _ _ (obR A s r)]
      simp only [cb_eq, cb_ne, cb_lt, cb_ge, cb_gt, cb_le, cb_q, cb_qL, ri_s, rl_s, rr_s, rv_s, Option.bind_some, i10, cond_true, cond_false, m_isIn, r_f0]
      exact if2n g _ _
    · rw [ev_X4_needed _ _ _ _ (obD S 0 s F rb)]
      simp only [cb_eq, cb_ne, cb_lt, cb_ge, cb_gt, cb_le, cb_q, cb_qL, ri_s, rl_s, rr_s, rv_s, Option.bind_some, i10, cond_true, cond_false, c_isWithin, c_f0]
      exact if2n g _ _
