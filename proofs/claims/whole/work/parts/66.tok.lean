/-! TOKENS, on both sides -/
theorem gB1 (S : Nat → Nat → Int32) (s q : Nat → Int32) (F : Nat → Nat → Int32) (rb : Nat) : rv_ldFI (cD S s q F rb) 35 2 1 = some (F 35 1) := Eq.trans rfl rfl
theorem hB1 (S : Nat → Nat → Int32) (s q : Nat → Int32) (F : Nat → Nat → Int32) (rb : Nat) (x : Int32) : rv_stF (cD S s q F rb) 35 2 1 (.int x) = some (cD S s q (upB F 35 1 x) rb) := Eq.trans rfl rfl
theorem gB2 (S : Nat → Nat → Int32) (s q : Nat → Int32) (F : Nat → Nat → Int32) (rb : Nat) : rv_ldFI (cD S s q F rb) 35 2 2 = some (F 35 2) := Eq.trans rfl rfl
theorem hB2 (S : Nat → Nat → Int32) (s q : Nat → Int32) (F : Nat → Nat → Int32) (rb : Nat) (x : Int32) : rv_stF (cD S s q F rb) 35 2 2 (.int x) = some (cD S s q (upB F 35 2 x) rb) := Eq.trans rfl rfl
theorem gB3 (S : Nat → Nat → Int32) (s q : Nat → Int32) (F : Nat → Nat → Int32) (rb : Nat) : rv_ldFI (cD S s q F rb) 35 2 3 = some (F 35 3) := Eq.trans rfl rfl
theorem hB3 (S : Nat → Nat → Int32) (s q : Nat → Int32) (F : Nat → Nat → Int32) (rb : Nat) (x : Int32) : rv_stF (cD S s q F rb) 35 2 3 (.int x) = some (cD S s q (upB F 35 3 x) rb) := Eq.trans rfl rfl
theorem gB4 (S : Nat → Nat → Int32) (s q : Nat → Int32) (F : Nat → Nat → Int32) (rb : Nat) : rv_ldFI (cD S s q F rb) 35 2 4 = some (F 35 4) := Eq.trans rfl rfl
theorem hB4 (S : Nat → Nat → Int32) (s q : Nat → Int32) (F : Nat → Nat → Int32) (rb : Nat) (x : Int32) : rv_stF (cD S s q F rb) 35 2 4 (.int x) = some (cD S s q (upB F 35 4 x) rb) := Eq.trans rfl rfl
theorem gB5 (S : Nat → Nat → Int32) (s q : Nat → Int32) (F : Nat → Nat → Int32) (rb : Nat) : rv_ldFI (cD S s q F rb) 35 2 5 = some (F 35 5) := Eq.trans rfl rfl
theorem hB5 (S : Nat → Nat → Int32) (s q : Nat → Int32) (F : Nat → Nat → Int32) (rb : Nat) (x : Int32) : rv_stF (cD S s q F rb) 35 2 5 (.int x) = some (cD S s q (upB F 35 5 x) rb) := Eq.trans rfl rfl
theorem gB0 (S : Nat → Nat → Int32) (s q : Nat → Int32) (F : Nat → Nat → Int32) (rb : Nat) : rv_ldFR (cD S s q F rb) 35 2 0 = some rb := Eq.trans rfl rfl
theorem hB0 (S : Nat → Nat → Int32) (s q : Nat → Int32) (F : Nat → Nat → Int32) (rb : Nat) (x : Nat) : rv_stF (cD S s q F rb) 35 2 0 (.ref x) = some (cD S s q F x) := Eq.trans rfl rfl
theorem obBD (S : Nat → Nat → Int32) (s q : Nat → Int32) (F : Nat → Nat → Int32) (rb : Nat) : (rv_obj (cD S s q F rb) 35 2).isSome = true := rfl
theorem ldDB (S : Nat → Nat → Int32) (s q : Nat → Int32) (F : Nat → Nat → Int32) (rb : Nat) {k : Nat} (h : k < 120) : rv_ldB (cD S s q F rb) 34 (nI k) = some (F 34 k) := ldT _ F rb h
theorem upd_app (f : Nat → Int32) (k : Nat) (x : Int32) (j : Nat) : upd f k x j = if j = k then x else f j := rfl
theorem upB_app (F : Nat → Nat → Int32) (p i : Nat) (x : Int32) (p' j : Nat) : upB F p i x p' j = if p' = p then (if j = i then x else F p j) else F p' j := by
  unfold upB upA
  by_cases e : p' = p
  · rw [if_pos e, if_pos e]; rfl
  · rw [if_neg e, if_neg e]
/-! bytes -/
def bt (A : Nat → Nat → Int32) (n j : Nat) : Int32 := if j < n then A 6 j else -1
def ct (F : Nat → Nat → Int32) (n j : Nat) : Int32 := if j < n then F 34 j else -1
def tpR (n : Nat) (A F : Nat → Nat → Int32) : Prop := n ≤ 120 ∧ ∀ k, k < n → (∃ m, m < 256 ∧ A 6 k = nI m) ∧ F 34 k = (A 6 k).toInt8.toInt32
theorem i8_cut : ∀ m : Fin 256, (nI m.val).toInt8.toInt32 = nI m.val ∨ (128 ≤ nI m.val ∧ (nI m.val).toInt8.toInt32 < 0) := by decide +kernel
theorem by_cut {n : Nat} {A F : Nat → Nat → Int32} (T : tpR n A F) (j : Nat) : ct F n j = bt A n j ∨ (128 ≤ bt A n j ∧ ct F n j < 0) := by
  unfold ct bt
  by_cases h : j < n
  · rw [if_pos h, if_pos h]
    obtain ⟨⟨m, hm, e⟩, e2⟩ := T.2 j h
    rw [e2, e]
    exact i8_cut ⟨m, hm⟩
  · rw [if_neg h, if_neg h]
    exact Or.inl rfl
theorem by_eq {n : Nat} {A F : Nat → Nat → Int32} (T : tpR n A F) (j : Nat) {c : Int32} (h0 : 0 ≤ c) (h1 : c ≤ 127) : ct F n j = c ↔ bt A n j = c := by
  rcases by_cut T j with e | ⟨e1, e2⟩
  · rw [e]
  · constructor
    · intro q; rw [q] at e2; exact absurd e2 (Int32.not_lt.mpr h0)
    · intro q; rw [q] at e1; exact absurd (Int32.le_trans e1 h1) (by decide)
theorem by_in {n : Nat} {A F : Nat → Nat → Int32} (T : tpR n A F) (j : Nat) {c d : Int32} (h0 : 0 ≤ c) (h1 : d ≤ 127) : (c ≤ ct F n j ∧ ct F n j ≤ d) ↔ (c ≤ bt A n j ∧ bt A n j ≤ d) := by
  rcases by_cut T j with e | ⟨e1, e2⟩
  · rw [e]
  · constructor
    · intro q; exact absurd e2 (Int32.not_lt.mpr (Int32.le_trans h0 q.1))
    · intro q; exact absurd (Int32.le_trans e1 (Int32.le_trans q.2 h1)) (by decide)
theorem by_in_eq {n : Nat} {A F : Nat → Nat → Int32} (T : tpR n A F) (j : Nat) {d : Int32} (h1 : d ≤ 127) (h : bt A n j ≤ d) : ct F n j = bt A n j := by
  rcases by_cut T j with e | ⟨e1, e2⟩
  · exact e
  · exact absurd (Int32.le_trans e1 (Int32.le_trans h h1)) (by decide)
theorem bt_n {n : Nat} (A : Nat → Nat → Int32) {j : Nat} (h : n ≤ j) : bt A n j = -1 := if_neg (by omega)
theorem bt_nn {n : Nat} {A F : Nat → Nat → Int32} (T : tpR n A F) {j : Nat} (h : j < n) : 0 ≤ bt A n j := by
  unfold bt
  rw [if_pos h]
  obtain ⟨⟨m, hm, e⟩, -⟩ := T.2 j h
  rw [e]
  exact nI_pos' (by omega)
theorem r_byte {n : Nat} (hn : n ≤ 120) (A : Nat → Nat → Int32) (s r : Nat → Int32) (h7 : r 7 = nI n) {j : Nat} (hj : j < 1000) : rv_EV 176 [.ref 0, .int (nI j)] (mR A s r) = some (some (.int (bt A n j)), mR A s r) := by
  rw [ev_X5_byteAt _ _ _ (obR A s r)]
  simp only [cb_eq, cb_ne, cb_lt, cb_ge, cb_gt, cb_le, cb_q, cb_qL, ri_s, rl_s, rr_s, rv_s, Option.bind_some, i10, cond_true, cond_false, lgR4, sgR4, lgR7, sgR7, lgR11, sgR11, lgR12, sgR12, lgR13, sgR13, lgR14, sgR14, lgR15, sgR15, lfR_1, lfR_2, lfR_3, lfR_5, lfR_6, lfR_8, lfR_9, lfR_10, h7]
  unfold bt
  by_cases h : j < n
  · rw [if_neg (nI_ge h (by omega)), if_pos h, ldR6 A s r (by omega)]
    rfl
  · rw [if_pos (nI_le (by omega) (by omega)), if_neg h]
theorem c_byte {n : Nat} (hn : n ≤ 120) (S : Nat → Nat → Int32) (s q : Nat → Int32) (F : Nat → Nat → Int32) (rb : Nat) (hb : rb = 34) (h1 : F 35 1 = nI n) {j : Nat} (hj : j < 1000) : rv_EV 48 [.ref 35, .int (nI j)] (cD S s q F rb) = some (some (.int (ct F n j)), cD S s q F rb) := by
  subst hb
  rw [ev_X3_byteAt _ _ _ (obBD S s q F 34)]
  simp only [cb_eq, cb_ne, cb_lt, cb_ge, cb_gt, cb_le, cb_q, cb_qL, ri_s, rl_s, rr_s, rv_s, Option.bind_some, i10, cond_true, cond_false, gB1, hB1, gB2, hB2, gB3, hB3, gB4, hB4, gB5, hB5, gB0, h1, show ¬ nI j < 0 from Int32.not_lt.mpr (nI_pos' (by omega)), if_false]
  unfold ct
  by_cases h : j < n
  · rw [if_neg (nI_ge h (by omega)), if_pos h, ldDB S s q F 34 (by omega)]
    rfl
  · rw [if_pos (nI_le (by omega) (by omega)), if_neg h]
theorem in_if (x a b : Int32) {α : Type} (f t : α) : (if x < a then f else if b < x then f else t) = if a ≤ x ∧ x ≤ b then t else f := by
  by_cases h1 : x < a
  · rw [if_pos h1, if_neg (fun q => absurd h1 (Int32.not_lt.mpr q.1))]
  · rw [if_neg h1]
    by_cases h2 : b < x
    · rw [if_pos h2, if_neg (fun q => absurd h2 (Int32.not_lt.mpr q.2))]
    · rw [if_neg h2, if_pos ⟨Int32.not_lt.mp h1, Int32.not_lt.mp h2⟩]
theorem m_isLetter (x : Int32) (w : rv_W) : rv_EV 174 [.int x] w = some (some (.int (if 97 ≤ x ∧ x ≤ 122 then 1 else 0)), w) := by
  rw [ev_X5_isLetter]
  simp only [cb_eq, cb_ne, cb_lt, cb_ge, cb_gt, cb_le, cb_q, cb_qL, ri_s, rl_s, rr_s, rv_s, Option.bind_some, i10, cond_true, cond_false, in_if]
  split <;> rfl
theorem m_isDigit (x : Int32) (w : rv_W) : rv_EV 175 [.int x] w = some (some (.int (if 48 ≤ x ∧ x ≤ 57 then 1 else 0)), w) := by
  rw [ev_X5_isDigit]
  simp only [cb_eq, cb_ne, cb_lt, cb_ge, cb_gt, cb_le, cb_q, cb_qL, ri_s, rl_s, rr_s, rv_s, Option.bind_some, i10, cond_true, cond_false, in_if]
  split <;> rfl
theorem c_isLetter (x : Int32) (w : rv_W) : rv_EV 49 [.int x] w = some (some (.int (if 97 ≤ x ∧ x ≤ 122 then 1 else 0)), w) := by
  rw [ev_X3_isLetter]
  simp only [cb_eq, cb_ne, cb_lt, cb_ge, cb_gt, cb_le, cb_q, cb_qL, ri_s, rl_s, rr_s, rv_s, Option.bind_some, i10, cond_true, cond_false, in_if]
  split <;> rfl
theorem c_isDigit (x : Int32) (w : rv_W) : rv_EV 50 [.int x] w = some (some (.int (if 48 ≤ x ∧ x ≤ 57 then 1 else 0)), w) := by
  rw [ev_X3_isDigit]
  simp only [cb_eq, cb_ne, cb_lt, cb_ge, cb_gt, cb_le, cb_q, cb_qL, ri_s, rl_s, rr_s, rv_s, Option.bind_some, i10, cond_true, cond_false, in_if]
  split <;> rfl
theorem by_let {n : Nat} {A F : Nat → Nat → Int32} (T : tpR n A F) (j : Nat) : (97 ≤ ct F n j ∧ ct F n j ≤ 122) = (97 ≤ bt A n j ∧ bt A n j ≤ 122) := propext (by_in T j (by decide) (by decide))
theorem by_dig {n : Nat} {A F : Nat → Nat → Int32} (T : tpR n A F) (j : Nat) : (48 ≤ ct F n j ∧ ct F n j ≤ 57) = (48 ≤ bt A n j ∧ bt A n j ≤ 57) := propext (by_in T j (by decide) (by decide))
theorem by_32 {n : Nat} {A F : Nat → Nat → Int32} (T : tpR n A F) (j : Nat) : (ct F n j = 32) = (bt A n j = 32) := propext (by_eq T j (by decide) (by decide))
theorem by_59 {n : Nat} {A F : Nat → Nat → Int32} (T : tpR n A F) (j : Nat) : (ct F n j = 59) = (bt A n j = 59) := propext (by_eq T j (by decide) (by decide))
/-! what a token leaves -/
def frR (r r' : Nat → Int32) : Prop := ∀ i, (i < 11 ∨ 14 < i) → r' i = r i
def frF (F F' : Nat → Nat → Int32) : Prop := (∀ p, ¬ p = 35 → F' p = F p) ∧ F' 35 1 = F 35 1
theorem frR.trans {r r' r'' : Nat → Int32} (a : frR r r') (b : frR r' r'') : frR r r'' := fun i hi => (b i hi).trans (a i hi)
theorem frF.trans {F F' F'' : Nat → Nat → Int32} (a : frF F F') (b : frF F' F'') : frF F F'' := ⟨fun p hp => (b.1 p hp).trans (a.1 p hp), b.2.trans a.2⟩
theorem frR_r (r : Nat → Int32) : frR r r := fun _ _ => rfl
theorem frF_r (F : Nat → Nat → Int32) : frF F F := ⟨fun _ _ => rfl, rfl⟩
theorem frR_u {r r' : Nat → Int32} (a : frR r r') {k : Nat} (hk : 11 ≤ k ∧ k ≤ 14) (x : Int32) : frR r (upd r' k x) := fun i hi => (pk_un (by omega)).trans (a i hi)
theorem frF_u {F F' : Nat → Nat → Int32} (a : frF F F') {k : Nat} (hk : ¬ k = 1) (x : Int32) : frF F (upB F' 35 k x) := by
  refine ⟨fun p hp => ?_, ?_⟩
  · rw [show upB F' 35 k x p = F' p from upA_n F' hp _]; exact a.1 p hp
  · rw [upB_app, if_pos rfl, if_neg (fun q => hk q.symm)]; exact a.2
theorem tp_fr {n : Nat} {A F F' : Nat → Nat → Int32} (T : tpR n A F) (f : frF F F') : tpR n A F' := ⟨T.1, fun k hk => by rw [f.1 34 (by decide)]; exact T.2 k hk⟩
def valR (x y : Int32) : Prop := (∃ v, v ≤ 9999 ∧ x = nI v ∧ y = nI v) ∨ ((∃ v, v ≤ 99999 ∧ 9999 < v ∧ x = nI v) ∧ y = 10000)
def Tok (n k a e : Nat) (r : Nat → Int32) (F : Nat → Nat → Int32) : Prop := (r 11 = nI k ∧ F 35 2 = nI k) ∧ (r 12 = nI a ∧ F 35 3 = nI a) ∧ (r 13 = nI e ∧ F 35 4 = nI e) ∧ k ≤ 4 ∧ a ≤ e ∧ e ≤ n ∧ (k = 2 → valR (r 14) (F 35 5)) ∧ (¬ k = 0 → a < e)
/-! letters -/
theorem tok_let {n : Nat} {A : Nat → Nat → Int32} {s0 : Nat → Int32} {S : Nat → Nat → Int32} {s q : Nat → Int32} : ∀ (d e : Nat) (r : Nat → Int32) (F : Nat → Nat → Int32), e + d = n → tpR n A F → r 7 = nI n → F 35 1 = nI n → r 11 = 1 → r 13 = nI e → F 35 4 = nI e → ∃ r' F' e', rv_GO rc_X5_nextToken 101 [some (.ref 0), none] [] (mR A s0 r) = some (none, mR A s0 r') ∧ rv_GO rc_X3_readToken 93 [some (.ref 35), none] [] (cD S s q F 34) = some (none, cD S s q F' 34) ∧ r' 13 = nI e' ∧ F' 35 4 = nI e' ∧ e ≤ e' ∧ e' ≤ n ∧ (∀ i, ¬ i = 13 → r' i = r i) ∧ (∀ p, ¬ p = 35 → F' p = F p) ∧ (∀ i, ¬ i = 4 → F' 35 i = F 35 i) ∧ (97 ≤ bt A n e ∧ bt A n e ≤ 122 → e < e') := by
  have stop : ∀ (e : Nat) (r : Nat → Int32), r 11 = 1 → r 13 = nI e → rv_GO rc_X5_nextToken 136 [some (.ref 0), none] [] (mR A s0 r) = some (none, mR A s0 (upd r 13 (nI e))) := by
    intro e r h11 h13
    rw [bk_X5_nextToken_136]
    simp only [cb_eq, cb_ne, cb_lt, cb_ge, cb_gt, cb_le, cb_q, cb_qL, ri_s, rl_s, rr_s, rv_s, Option.bind_some, i10, cond_true, cond_false, lgR4, sgR4, lgR7, sgR7, lgR11, sgR11, lgR12, sgR12, lgR13, sgR13, lgR14, sgR14, lgR15, sgR15, lfR_1, lfR_2, lfR_3, lfR_5, lfR_6, lfR_8, lfR_9, lfR_10, h11, show ¬ (1 : Int32) = 2 from by decide, if_false, bk_X5_nextToken_211, h13, show (1 : Int32) ≤ 2 from by decide, if_true, add_0]
  intro d
  induction d with
  | zero =>
    intro e r F he T h7 h1 h11 h13 h4
    have he : e = n := by omega
    subst he
    have hn := T.1
    have nl : ¬ (97 ≤ bt A e e ∧ bt A e e ≤ 122) := by rw [bt_n A (Nat.le_refl _)]; decide
    refine ⟨upd r 13 (nI e), F, e, ?_, ?_, rfl, h4, Nat.le_refl _, Nat.le_refl _, fun i hi => pk_un hi, fun _ _ => rfl, fun _ _ => rfl, fun q => absurd q nl⟩
    · rw [bk_X5_nextToken_101]
      simp only [cb_eq, cb_ne, cb_lt, cb_ge, cb_gt, cb_le, cb_q, cb_qL, ri_s, rl_s, rr_s, rv_s, Option.bind_some, i10, cond_true, cond_false, lgR4, sgR4, lgR7, sgR7, lgR11, sgR11, lgR12, sgR12, lgR13, sgR13, lgR14, sgR14, lgR15, sgR15, lfR_1, lfR_2, lfR_3, lfR_5, lfR_6, lfR_8, lfR_9, lfR_10, h11, if_true, h13, r_byte hn A s0 r h7 (show e < 1000 by omega), m_isLetter, nl, not_false_eq_true, stop e r h11 h13]
    · rw [bk_X3_readToken_93]
      simp only [cb_eq, cb_ne, cb_lt, cb_ge, cb_gt, cb_le, cb_q, cb_qL, ri_s, rl_s, rr_s, rv_s, Option.bind_some, i10, cond_true, cond_false, gB1, hB1, gB2, hB2, gB3, hB3, gB4, hB4, gB5, hB5, h1, h4, Int32.le_refl, if_true]
  | succ d ih =>
    intro e r F he T h7 h1 h11 h13 h4
    have hn := T.1
    by_cases l : 97 ≤ bt A n e ∧ bt A n e ≤ 122
    · obtain ⟨r', F', e', g1, g2, g3, g4, g5, g6, g7, g8, g9, -⟩ := ih (e + 1) (upd r 13 (nI (e + 1))) (upB F 35 4 (nI (e + 1))) (by omega) (tp_fr T (frF_u (frF_r F) (by decide) _)) h7 h1 h11 rfl rfl
      refine ⟨r', F', e', ?_, ?_, g3, g4, by omega, g6, fun i hi => ?_, fun p hp => ?_, fun i hi => ?_, fun _ => by omega⟩
      · rw [bk_X5_nextToken_101]
        simp only [cb_eq, cb_ne, cb_lt, cb_ge, cb_gt, cb_le, cb_q, cb_qL, ri_s, rl_s, rr_s, rv_s, Option.bind_some, i10, cond_true, cond_false, lgR4, sgR4, lgR7, sgR7, lgR11, sgR11, lgR12, sgR12, lgR13, sgR13, lgR14, sgR14, lgR15, sgR15, lfR_1, lfR_2, lfR_3, lfR_5, lfR_6, lfR_8, lfR_9, lfR_10, h11, if_true, h13, r_byte hn A s0 r h7 (show e < 1000 by omega), m_isLetter, nI_1]
        rw [if_neg (fun f => f l)]
        exact g1
      · rw [bk_X3_readToken_93]
        simp only [cb_eq, cb_ne, cb_lt, cb_ge, cb_gt, cb_le, cb_q, cb_qL, ri_s, rl_s, rr_s, rv_s, Option.bind_some, i10, cond_true, cond_false, gB1, hB1, gB2, hB2, gB3, hB3, gB4, hB4, gB5, hB5, h1, h4, nI_ge (show e < n by omega) (show n < 2 ^ 31 by omega), if_false, c_byte hn S s q F 34 rfl h1 (show e < 1000 by omega), c_isLetter, by_let T, nI_1]
        rw [if_neg (fun f => f l)]
        exact g2
      · rw [g7 i hi, pk_un hi]
      · rw [g8 p hp]; exact upA_n F hp _
      · rw [g9 i hi, upB_app, if_pos rfl, if_neg hi]
    · refine ⟨upd r 13 (nI e), F, e, ?_, ?_, rfl, h4, Nat.le_refl _, by omega, fun i hi => pk_un hi, fun _ _ => rfl, fun _ _ => rfl, fun q => absurd q l⟩
      · rw [bk_X5_nextToken_101]
        simp only [cb_eq, cb_ne, cb_lt, cb_ge, cb_gt, cb_le, cb_q, cb_qL, ri_s, rl_s, rr_s, rv_s, Option.bind_some, i10, cond_true, cond_false, lgR4, sgR4, lgR7, sgR7, lgR11, sgR11, lgR12, sgR12, lgR13, sgR13, lgR14, sgR14, lgR15, sgR15, lfR_1, lfR_2, lfR_3, lfR_5, lfR_6, lfR_8, lfR_9, lfR_10, h11, if_true, h13, r_byte hn A s0 r h7 (show e < 1000 by omega), m_isLetter, l, not_false_eq_true, stop e r h11 h13]
      · rw [bk_X3_readToken_93]
        simp only [cb_eq, cb_ne, cb_lt, cb_ge, cb_gt, cb_le, cb_q, cb_qL, ri_s, rl_s, rr_s, rv_s, Option.bind_some, i10, cond_true, cond_false, gB1, hB1, gB2, hB2, gB3, hB3, gB4, hB4, gB5, hB5, h1, h4, nI_ge (show e < n by omega) (show n < 2 ^ 31 by omega), if_false, c_byte hn S s q F 34 rfl h1 (show e < 1000 by omega), c_isLetter, by_let T, l, not_false_eq_true, if_true]
/-! digits -/
theorem val_step {x y b c : Int32} (v : valR x y) (h : 48 ≤ b ∧ b ≤ 57) (e : c = b) : valR (if x ≤ 9999 then (10 * x + b) - 48 else x) (rv_min ((y * 10 + c) - 48) 10000) := by
  subst e
  have hb0 : 0 ≤ c := Int32.le_trans (by decide) h.1
  obtain ⟨m, hm, rfl⟩ := ix_le (n := 57) (by decide) hb0 h.2
  have h48 : 48 ≤ m := (nI_leI (a := 48) (by decide) (by omega)).mp h.1
  rcases v with ⟨v, hv, rfl, rfl⟩ | ⟨⟨v, hv, hv2, rfl⟩, rfl⟩
  · have e1 : (10 * nI v + nI m) - 48 = nI (10 * v + m - 48) := by
      rw [show (10 : Int32) = nI 10 from rfl, show (48 : Int32) = nI 48 from rfl, pk_mul, nI_add, pk_sub (by omega)]
    have e2 : (nI v * 10 + nI m) - 48 = nI (10 * v + m - 48) := by
      rw [show (10 : Int32) = nI 10 from rfl, show (48 : Int32) = nI 48 from rfl, pk_mul, nI_add, pk_sub (by omega), Nat.mul_comm]
    rw [if_pos (show nI v ≤ 9999 from nI_le (a := v) (b := 9999) hv (by decide)), e1, e2]
    unfold rv_min
    by_cases le : 10 * v + m - 48 ≤ 9999
    · left
      refine ⟨10 * v + m - 48, le, rfl, ?_⟩
      rw [if_neg (show ¬ (10000 : Int32) < nI (10 * v + m - 48) from nI_nlt (a := 10000) (b := 10 * v + m - 48) (by omega) (by decide))]
    · right
      refine ⟨⟨10 * v + m - 48, by omega, by omega, rfl⟩, ?_⟩
      by_cases e3 : 10 * v + m - 48 = 10000
      · rw [e3]; decide
      · rw [if_pos (show (10000 : Int32) < nI (10 * v + m - 48) from nI_lt (a := 10000) (b := 10 * v + m - 48) (by omega) (by omega))]
  · right
    refine ⟨⟨v, hv, hv2, ?_⟩, ?_⟩
    · rw [if_neg (show ¬ nI v ≤ 9999 from nI_ge (a := 9999) (b := v) hv2 (by omega))]
    · have e2 : ((10000 : Int32) * 10 + nI m) - 48 = nI (100000 + m - 48) := by
        rw [show (10000 : Int32) * 10 = nI 100000 from by decide, show (48 : Int32) = nI 48 from rfl, nI_add, pk_sub (by omega)]
      rw [e2]
      unfold rv_min
      rw [if_pos (show (10000 : Int32) < nI (100000 + m - 48) from nI_lt (a := 10000) (b := 100000 + m - 48) (by omega) (by omega))]
theorem tok_dig {n : Nat} {A : Nat → Nat → Int32} {s0 : Nat → Int32} {S : Nat → Nat → Int32} {s q : Nat → Int32} : ∀ (d e : Nat) (r : Nat → Int32) (F : Nat → Nat → Int32), e + d = n → tpR n A F → r 7 = nI n → F 35 1 = nI n → r 11 = 2 → r 13 = nI e → F 35 4 = nI e → valR (r 14) (F 35 5) → ∃ r' F' e', rv_GO rc_X5_nextToken 136 [some (.ref 0), none] [] (mR A s0 r) = some (none, mR A s0 r') ∧ rv_GO rc_X3_readToken 148 [some (.ref 35), none] [] (cD S s q F 34) = some (none, cD S s q F' 34) ∧ r' 13 = nI e' ∧ F' 35 4 = nI e' ∧ e ≤ e' ∧ e' ≤ n ∧ (∀ i, ¬ i = 13 → ¬ i = 14 → r' i = r i) ∧ (∀ p, ¬ p = 35 → F' p = F p) ∧ (∀ i, ¬ i = 4 → ¬ i = 5 → F' 35 i = F 35 i) ∧ (48 ≤ bt A n e ∧ bt A n e ≤ 57 → e < e') ∧ valR (r' 14) (F' 35 5) := by
  have stop : ∀ (e : Nat) (r : Nat → Int32), r 11 = 2 → r 13 = nI e → rv_GO rc_X5_nextToken 211 [some (.ref 0), none] [] (mR A s0 r) = some (none, mR A s0 (upd r 13 (nI e))) := by
    intro e r h11 h13
    rw [bk_X5_nextToken_211]
    simp only [cb_eq, cb_ne, cb_lt, cb_ge, cb_gt, cb_le, cb_q, cb_qL, ri_s, rl_s, rr_s, rv_s, Option.bind_some, i10, cond_true, cond_false, lgR4, sgR4, lgR7, sgR7, lgR11, sgR11, lgR12, sgR12, lgR13, sgR13, lgR14, sgR14, lgR15, sgR15, lfR_1, lfR_2, lfR_3, lfR_5, lfR_6, lfR_8, lfR_9, lfR_10, h11, h13, show (2 : Int32) ≤ 2 from by decide, if_true, add_0]
  intro d
  induction d with
  | zero =>
    intro e r F he T h7 h1 h11 h13 h4 hv
    have he : e = n := by omega
    subst he
    have hn := T.1
    have nl : ¬ (48 ≤ bt A e e ∧ bt A e e ≤ 57) := by rw [bt_n A (Nat.le_refl _)]; decide
    refine ⟨upd r 13 (nI e), F, e, ?_, ?_, rfl, h4, Nat.le_refl _, Nat.le_refl _, fun i hi _ => pk_un hi, fun _ _ => rfl, fun _ _ _ => rfl, fun q => absurd q nl, hv⟩
    · rw [bk_X5_nextToken_136]
      simp only [cb_eq, cb_ne, cb_lt, cb_ge, cb_gt, cb_le, cb_q, cb_qL, ri_s, rl_s, rr_s, rv_s, Option.bind_some, i10, cond_true, cond_false, lgR4, sgR4, lgR7, sgR7, lgR11, sgR11, lgR12, sgR12, lgR13, sgR13, lgR14, sgR14, lgR15, sgR15, lfR_1, lfR_2, lfR_3, lfR_5, lfR_6, lfR_8, lfR_9, lfR_10, h11, if_true, h13, r_byte hn A s0 r h7 (show e < 1000 by omega), m_isDigit, nl, not_false_eq_true, stop e r h11 h13]
    · rw [bk_X3_readToken_148]
      simp only [cb_eq, cb_ne, cb_lt, cb_ge, cb_gt, cb_le, cb_q, cb_qL, ri_s, rl_s, rr_s, rv_s, Option.bind_some, i10, cond_true, cond_false, gB1, hB1, gB2, hB2, gB3, hB3, gB4, hB4, gB5, hB5, h1, h4, Int32.le_refl, if_true]
  | succ d ih =>
    intro e r F he T h7 h1 h11 h13 h4 hv
    have hn := T.1
    by_cases l : 48 ≤ bt A n e ∧ bt A n e ≤ 57
    · have vs := val_step hv l (by_in_eq T e (by decide) l.2)
      obtain ⟨r', F', e', g1, g2, g3, g4, g5, g6, g7, g8, g9, -, g10⟩ := ih (e + 1) (upd (upd r 14 (if r 14 ≤ 9999 then (10 * r 14 + bt A n e) - 48 else r 14)) 13 (nI (e + 1))) (upB (upB F 35 5 (rv_min ((F 35 5 * 10 + ct F n e) - 48) 10000)) 35 4 (nI (e + 1))) (by omega) (tp_fr T (frF_u (frF_u (frF_r F) (by decide) _) (by decide) _)) h7 h1 h11 rfl rfl vs
      refine ⟨r', F', e', ?_, ?_, g3, g4, by omega, g6, fun i hi hi2 => ?_, fun p hp => ?_, fun i hi hi2 => ?_, fun _ => by omega, g10⟩
      · rw [bk_X5_nextToken_136]
        simp only [cb_eq, cb_ne, cb_lt, cb_ge, cb_gt, cb_le, cb_q, cb_qL, ri_s, rl_s, rr_s, rv_s, Option.bind_some, i10, cond_true, cond_false, lgR4, sgR4, lgR7, sgR7, lgR11, sgR11, lgR12, sgR12, lgR13, sgR13, lgR14, sgR14, lgR15, sgR15, lfR_1, lfR_2, lfR_3, lfR_5, lfR_6, lfR_8, lfR_9, lfR_10, h11, if_true, h13, r_byte hn A s0 r h7 (show e < 1000 by omega), m_isDigit, bk_X5_nextToken_195]
        rw [if_neg (fun f => f l)]
        by_cases lv : r 14 ≤ 9999
        · simp only [lv, if_true, upd_app, Nat.reduceEqDiff, ↓reduceIte, h13, nI_1] at g1 ⊢
          exact g1
        · simp only [lv, if_false, upd_app, Nat.reduceEqDiff, ↓reduceIte, h13, nI_1] at g1 ⊢
          exact g1
      · rw [bk_X3_readToken_148]
        simp only [cb_eq, cb_ne, cb_lt, cb_ge, cb_gt, cb_le, cb_q, cb_qL, ri_s, rl_s, rr_s, rv_s, Option.bind_some, i10, cond_true, cond_false, gB1, hB1, gB2, hB2, gB3, hB3, gB4, hB4, gB5, hB5, h1, h4, nI_ge (show e < n by omega) (show n < 2 ^ 31 by omega), if_false, c_byte hn S s q F 34 rfl h1 (show e < 1000 by omega), c_isDigit, by_dig T]
        rw [if_neg (fun f => f l)]
        simp only [upB_app, Nat.reduceEqDiff, ↓reduceIte, h4, nI_1]
        exact g2
      · rw [g7 i hi hi2, pk_un hi, pk_un hi2]
      · rw [g8 p hp]; exact (upA_n _ hp _).trans (upA_n F hp _)
      · rw [g9 i hi hi2, upB_app, if_pos rfl, if_neg hi, upB_app, if_pos rfl, if_neg hi2]
    · refine ⟨upd r 13 (nI e), F, e, ?_, ?_, rfl, h4, Nat.le_refl _, by omega, fun i hi _ => pk_un hi, fun _ _ => rfl, fun _ _ _ => rfl, fun q => absurd q l, hv⟩
      · rw [bk_X5_nextToken_136]
        simp only [cb_eq, cb_ne, cb_lt, cb_ge, cb_gt, cb_le, cb_q, cb_qL, ri_s, rl_s, rr_s, rv_s, Option.bind_some, i10, cond_true, cond_false, lgR4, sgR4, lgR7, sgR7, lgR11, sgR11, lgR12, sgR12, lgR13, sgR13, lgR14, sgR14, lgR15, sgR15, lfR_1, lfR_2, lfR_3, lfR_5, lfR_6, lfR_8, lfR_9, lfR_10, h11, if_true, h13, r_byte hn A s0 r h7 (show e < 1000 by omega), m_isDigit, l, not_false_eq_true, stop e r h11 h13]
      · rw [bk_X3_readToken_148]
        simp only [cb_eq, cb_ne, cb_lt, cb_ge, cb_gt, cb_le, cb_q, cb_qL, ri_s, rl_s, rr_s, rv_s, Option.bind_some, i10, cond_true, cond_false, gB1, hB1, gB2, hB2, gB3, hB3, gB4, hB4, gB5, hB5, h1, h4, nI_ge (show e < n by omega) (show n < 2 ^ 31 by omega), if_false, c_byte hn S s q F 34 rfl h1 (show e < 1000 by omega), c_isDigit, by_dig T, l, not_false_eq_true, if_true]
