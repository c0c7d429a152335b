/-! WORDS -/
def wdL (i : Nat) : List Int32 := rv_strB.getD i []
def wb (i j : Nat) : Int32 := (wdL i).getD j 0
theorem lt14 {P : Nat → Prop} (h0 : P 0) (h1 : P 1) (h2 : P 2) (h3 : P 3) (h4 : P 4) (h5 : P 5) (h6 : P 6) (h7 : P 7) (h8 : P 8) (h9 : P 9) (h10 : P 10) (h11 : P 11) (h12 : P 12) (h13 : P 13) {i : Nat} (hi : i < 14) : P i := by
  rcases (show i = 0 ∨ i = 1 ∨ i = 2 ∨ i = 3 ∨ i = 4 ∨ i = 5 ∨ i = 6 ∨ i = 7 ∨ i = 8 ∨ i = 9 ∨ i = 10 ∨ i = 11 ∨ i = 12 ∨ i = 13 by omega) with rfl | rfl | rfl | rfl | rfl | rfl | rfl | rfl | rfl | rfl | rfl | rfl | rfl | rfl <;> assumption
theorem wdL_get {i : Nat} (hi : i < 14) : rv_strB[i]? = some (wdL i) := lt14 (P := fun i => rv_strB[i]? = some (wdL i)) rfl rfl rfl rfl rfl rfl rfl rfl rfl rfl rfl rfl rfl rfl hi
theorem wdL_11 {i : Nat} (hi : i < 14) : (wdL i).length ≤ 11 := lt14 (P := fun i => (wdL i).length ≤ 11) (by decide) (by decide) (by decide) (by decide) (by decide) (by decide) (by decide) (by decide) (by decide) (by decide) (by decide) (by decide) (by decide) (by decide) hi
def okC (x : Int32) : Bool := decide (0 ≤ x ∧ x ≤ 127) && (decide (((x &&& 255).toUInt32 % 65536).toInt32 = x) && rv_ch x)
theorem okC_all : ∀ i : Fin 14, ∀ j : Fin 11, okC (wb i.val j.val) = true := by decide +kernel
theorem okC_at {i j : Nat} (hi : i < 14) (hj : j < (wdL i).length) : (0 ≤ wb i j ∧ wb i j ≤ 127) ∧ ((wb i j &&& 255).toUInt32 % 65536).toInt32 = wb i j ∧ rv_ch (wb i j) = true := by
  have := wdL_11 hi
  have h := okC_all ⟨i, hi⟩ ⟨j, by omega⟩
  simp only [okC, Bool.and_eq_true, decide_eq_true_iff] at h
  exact h
theorem hp14 {i : Nat} (hi : i < 14) : (decide (1000 ≤ 1000 + i) && decide (1000 + i < 1014)) = true := by
  simp only [Bool.and_eq_true, decide_eq_true_iff]
  omega
theorem bl14 {i : Nat} (hi : i < 14) : (Nat.ble 1000 (1000 + i) && Nat.ble (1000 + i) 1013) = true := by
  simp only [Bool.and_eq_true, Nat.ble_eq]
  omega
theorem len14 {i : Nat} (hi : i < 14) (w : rv_W) : rv_len w (2000 + i) = some (nI (wdL i).length) := by
  unfold rv_len
  rw [if_pos (by omega), show 2000 + i - 2000 = i by omega, wdL_get hi]
  rfl
theorem i10_n : ¬ (1 : Int32) = 0 := by decide
theorem str_len {i : Nat} (hi : i < 14) (w : rv_W) : rv_EV 210 [.ref (1000 + i)] w = some (some (.int (nI (wdL i).length)), w) := by
  have h31 : nI (wdL i).length >>> ((0 : Int32) &&& 31) = nI (wdL i).length := lt14 (P := fun i => nI (wdL i).length >>> ((0 : Int32) &&& 31) = nI (wdL i).length) (by decide) (by decide) (by decide) (by decide) (by decide) (by decide) (by decide) (by decide) (by decide) (by decide) (by decide) (by decide) (by decide) (by decide) hi
  rw [ev_J0_length_8abf5 _ _ (hp14 hi), ev_J0_coder_7d493 _ _ (hp14 hi), bl14 hi, show 1000 + (1000 + i) = 2000 + i by omega, len14 hi]
  simp only [cb_eq, cb_ne, cb_lt, cb_ge, cb_gt, cb_le, cb_q, cb_qL, ri_s, rl_s, rr_s, rv_s, Option.bind_some, i10, cond_true, cond_false, i10_n, if_false, h31]
theorem str_at {i j : Nat} (hi : i < 14) (hj : j < (wdL i).length) (w : rv_W) : rv_EV 211 [.ref (1000 + i), .int (nI j)] w = some (some (.int (wb i j)), w) := by
  obtain ⟨-, h2, h3⟩ := okC_at hi hj
  have := wdL_11 hi
  have ld : rv_ldB w (2000 + i) (nI j) = some (wb i j) := by
    unfold rv_ldB rv_ix
    rw [if_pos (by omega), show 2000 + i - 2000 = i by omega, wdL_get hi]
    simp only [Option.bind_some]
    rw [if_neg (Int32.not_lt.mpr (nI_pos' (by omega))), nI_clamp (by omega)]
    unfold wb
    rw [List.getD_eq_getElem?_getD, List.getElem?_eq_getElem hj]
    rfl
  have ck : rv_EV 214 [.int (nI j), .int (nI (wdL i).length)] w = some (none, w) := by
    rw [ev_J0_checkIndex_df160, ev_J3_checkIndex_8e157]
    simp only [cb_eq, cb_ne, cb_lt, cb_ge, cb_gt, cb_le, cb_q, cb_qL, ri_s, rl_s, rr_s, rv_s, Option.bind_some, i10, cond_true, cond_false, show ¬ nI j < 0 from Int32.not_lt.mpr (nI_pos' (by omega)), if_false, nI_lt hj (show (wdL i).length < 2 ^ 31 by omega), if_true]
  rw [ev_J0_charAt_5068e _ _ _ (hp14 hi), ev_J0_isLatin1_aae02 _ _ (hp14 hi), bl14 hi, show 1000 + (1000 + i) = 2000 + i by omega]
  simp only [cb_eq, cb_ne, cb_lt, cb_ge, cb_gt, cb_le, cb_q, cb_qL, ri_s, rl_s, rr_s, rv_s, Option.bind_some, i10, cond_true, cond_false, i10_n, if_false, if_true]
  rw [ev_J1_charAt_3b067, len14 hi]
  simp only [cb_eq, cb_ne, cb_lt, cb_ge, cb_gt, cb_le, cb_q, cb_qL, ri_s, rl_s, rr_s, rv_s, Option.bind_some, i10, cond_true, cond_false, ck, ld, h2, h3]
/-- a word is at hand -/
def WD (A : Nat → Nat → Int32) (n k a e i : Nat) : Prop := k = 1 ∧ e = a + (wdL i).length ∧ ∀ j, j < (wdL i).length → bt A n (a + j) = wb i j
noncomputable def wdI (A : Nat → Nat → Int32) (n k a e i : Nat) : Int32 := @ite _ (WD A n k a e i) (Classical.propDecidable _) 1 0
theorem wdI_y {A : Nat → Nat → Int32} {n k a e i : Nat} (h : WD A n k a e i) : wdI A n k a e i = 1 := @if_pos _ (Classical.propDecidable _) h _ _ _
theorem wdI_n {A : Nat → Nat → Int32} {n k a e i : Nat} (h : ¬ WD A n k a e i) : wdI A n k a e i = 0 := @if_neg _ (Classical.propDecidable _) h _ _ _
theorem sub_eq {a e l : Nat} (h : a ≤ e) (he : e < 2 ^ 31) (hl : l < 2 ^ 31) : (nI e - nI a = nI l) = (e = a + l) := by
  rw [pk_sub h, nI_eq (by omega) hl]
  exact propext (by omega)
theorem c_atHand {n k a e : Nat} {A : Nat → Nat → Int32} {S : Nat → Nat → Int32} {s q : Nat → Int32} {r : Nat → Int32} {F : Nat → Nat → Int32} (T : tpR n A F) (h1 : F 35 1 = nI n) (K : Tok n k a e r F) {i : Nat} (hi : i < 14) : rv_EV 44 [.ref 35, .ref (1000 + i)] (cD S s q F 34) = some (some (.int (wdI A n k a e i)), cD S s q F 34) := by
  obtain ⟨⟨-, k2⟩, ⟨-, a2⟩, ⟨-, e2⟩, hk, hae, hen, -, -⟩ := K
  have hn := T.1
  have l11 := wdL_11 hi
  have st : ∀ d j, j + d = (wdL i).length → e = a + (wdL i).length → (∀ x, x < j → bt A n (a + x) = wb i x) → rv_GO rc_X3_isAtHand 28 [some (.ref 35), some (.ref (1000 + i)), some (.int (nI j))] [] (cD S s q F 34) = some (some (.int (if ∀ x, x < (wdL i).length → bt A n (a + x) = wb i x then 1 else 0)), cD S s q F 34) := by
    intro d
    induction d with
    | zero =>
      intro j hj he hx
      have hj : j = (wdL i).length := by omega
      rw [bk_X3_isAtHand_28]
      simp only [cb_eq, cb_ne, cb_lt, cb_ge, cb_gt, cb_le, cb_q, cb_qL, ri_s2, rl_s, rr_s, rv_s, bd_s, i10, cond_true, cond_false, str_len hi, hj, Int32.le_refl, if_true]
      rw [if_pos (by rw [← hj]; exact hx)]
    | succ d ih =>
      intro j hj he hx
      have hjl : j < (wdL i).length := by omega
      obtain ⟨⟨c1, c2⟩, -⟩ := okC_at hi hjl
      rw [bk_X3_isAtHand_28]
      simp only [cb_eq, cb_ne, cb_lt, cb_ge, cb_gt, cb_le, cb_q, cb_qL, ri_s2, rl_s, rr_s, rv_s, bd_s, i10, cond_true, cond_false, str_len hi, nI_ge hjl (show (wdL i).length < 2 ^ 31 by omega), if_false, gB1, hB1, gB2, hB2, gB3, hB3, gB4, hB4, gB5, hB5, a2, nI_add, c_byte hn S s q F 34 rfl h1 (show a + j < 1000 by omega), str_at hi hjl, nI_1]
      by_cases g : bt A n (a + j) = wb i j
      · rw [if_pos ((by_eq T (a + j) c1 c2).mpr g)]
        refine ih (j + 1) (by omega) he (fun x hx2 => ?_)
        by_cases ex : x = j
        · subst ex; exact g
        · exact hx x (by omega)
      · rw [if_neg (fun f => g ((by_eq T (a + j) c1 c2).mp f)), if_neg (fun f => g (f j hjl))]
  have k1 : (nI k = 1) = (k = 1) := propext (nI_eq (a := k) (b := 1) (by omega) (by decide))
  rw [ev_X3_isAtHand _ _ _ (obBD S s q F 34)]
  simp only [cb_eq, cb_ne, cb_lt, cb_ge, cb_gt, cb_le, cb_q, cb_qL, ri_s2, rl_s, rr_s, rv_s, bd_s, i10, cond_true, cond_false, gB1, hB1, gB2, hB2, gB3, hB3, gB4, hB4, gB5, hB5, k2, k1, e2, a2, str_len hi, sub_eq hae (show e < 2 ^ 31 by omega) (show (wdL i).length < 2 ^ 31 by omega)]
  by_cases g1 : k = 1
  · rw [if_pos g1]
    by_cases g2 : e = a + (wdL i).length
    · have s0 := st (wdL i).length 0 (by omega) g2 (fun x hx => absurd hx (by omega))
      rw [nI_0] at s0
      rw [if_pos g2, s0]
      by_cases g3 : ∀ x, x < (wdL i).length → bt A n (a + x) = wb i x
      · rw [if_pos g3, wdI_y ⟨g1, g2, g3⟩]
      · rw [if_neg g3, wdI_n (fun f => g3 f.2.2)]
    · rw [if_neg g2, wdI_n (fun f => g2 f.2.1)]
  · rw [if_neg g1, wdI_n (fun f => g1 f.1)]
/-! the reference's tests -/
theorem r_isWord {n k a e : Nat} {A : Nat → Nat → Int32} {s r : Nat → Int32} {F : Nat → Nat → Int32} (hn : n ≤ 120) (K : Tok n k a e r F) {l : Nat} (hl : l < 100) : rv_EV 179 [.ref 0, .int (nI l)] (mR A s r) = some (some (.int (if k = 1 ∧ e = a + l then 1 else 0)), mR A s r) := by
  obtain ⟨⟨k2, -⟩, ⟨a2, -⟩, ⟨e2, -⟩, hk, hae, hen, -, -⟩ := K
  have k1 : (nI k = 1) = (k = 1) := propext (nI_eq (a := k) (b := 1) (by omega) (by decide))
  rw [ev_X5_isWord _ _ _ (obR A s r)]
  simp only [cb_eq, cb_ne, cb_lt, cb_ge, cb_gt, cb_le, cb_q, cb_qL, ri_s2, rl_s, rr_s, rv_s, bd_s, i10, cond_true, cond_false, lgR4, sgR4, lgR7, sgR7, lgR11, sgR11, lgR12, sgR12, lgR13, sgR13, lgR14, sgR14, lgR15, sgR15, lfR_1, lfR_2, lfR_3, lfR_5, lfR_6, lfR_8, lfR_9, lfR_10, k2, k1, e2, a2, sub_eq hae (show e < 2 ^ 31 by omega) (show l < 2 ^ 31 by omega)]
  by_cases g1 : k = 1
  · rw [if_pos g1]
    by_cases g2 : e = a + l
    · rw [if_pos g2, if_pos ⟨g1, g2⟩]
    · rw [if_neg g2, if_neg (fun f => g2 f.2)]
  · rw [if_neg g1, if_neg (fun f => g1 f.1)]
theorem r_has3 {n k a e : Nat} {A : Nat → Nat → Int32} {s r : Nat → Int32} {F : Nat → Nat → Int32} (hn : n ≤ 120) (h7 : r 7 = nI n) (K : Tok n k a e r F) {i : Nat} (hi : i < 100) (x y z : Int32) : rv_EV 178 [.ref 0, .int (nI i), .int x, .int y, .int z] (mR A s r) = some (some (.int (if bt A n (a + i) = x ∧ bt A n (a + i + 1) = y ∧ bt A n (a + i + 2) = z then 1 else 0)), mR A s r) := by
  obtain ⟨-, ⟨a2, -⟩, -, hk, hae, hen, -, -⟩ := K
  have e2 : nI (a + i) + 2 = nI (a + i + 2) := nI_add _ 2
  rw [ev_X5_has3 _ _ _ _ _ _ (obR A s r)]
  simp only [cb_eq, cb_ne, cb_lt, cb_ge, cb_gt, cb_le, cb_q, cb_qL, ri_s2, rl_s, rr_s, rv_s, bd_s, i10, cond_true, cond_false, lgR4, sgR4, lgR7, sgR7, lgR11, sgR11, lgR12, sgR12, lgR13, sgR13, lgR14, sgR14, lgR15, sgR15, lfR_1, lfR_2, lfR_3, lfR_5, lfR_6, lfR_8, lfR_9, lfR_10, a2, nI_add, nI_1, e2, r_byte hn A s r h7 (show a + i < 1000 by omega), r_byte hn A s r h7 (show a + i + 1 < 1000 by omega), r_byte hn A s r h7 (show a + i + 2 < 1000 by omega)]
  by_cases g1 : bt A n (a + i) = x
  · rw [if_pos g1]
    by_cases g2 : bt A n (a + i + 1) = y
    · rw [if_pos g2]
      by_cases g3 : bt A n (a + i + 2) = z
      · rw [if_pos g3, if_pos ⟨g1, g2, g3⟩]
      · rw [if_neg g3, if_neg (fun f => g3 f.2.2)]
    · rw [if_neg g2, if_neg (fun f => g2 f.2.1)]
  · rw [if_neg g1, if_neg (fun f => g1 f.1)]
theorem ifc2 {α : Type} {P1 P2 : Prop} [Decidable P1] [Decidable P2] (f t : α) : (if ¬ P1 then f else if ¬ P2 then f else t) = if P1 ∧ P2 then t else f := by
  by_cases h1 : P1 <;> by_cases h2 : P2 <;> simp [h1, h2]
theorem ifc3 {α : Type} {P1 P2 P3 : Prop} [Decidable P1] [Decidable P2] [Decidable P3] (f t : α) : (if ¬ P1 then f else if ¬ P2 then f else if ¬ P3 then f else t) = if P1 ∧ P2 ∧ P3 then t else f := by
  by_cases h1 : P1 <;> by_cases h2 : P2 <;> by_cases h3 : P3 <;> simp [h1, h2, h3]
theorem ifc4 {α : Type} {P1 P2 P3 P4 : Prop} [Decidable P1] [Decidable P2] [Decidable P3] [Decidable P4] (f t : α) : (if ¬ P1 then f else if ¬ P2 then f else if ¬ P3 then f else if ¬ P4 then f else t) = if P1 ∧ P2 ∧ P3 ∧ P4 then t else f := by
  by_cases h1 : P1 <;> by_cases h2 : P2 <;> by_cases h3 : P3 <;> by_cases h4 : P4 <;> simp [h1, h2, h3, h4]
theorem ifc5 {α : Type} {P1 P2 P3 P4 P5 : Prop} [Decidable P1] [Decidable P2] [Decidable P3] [Decidable P4] [Decidable P5] (f t : α) : (if ¬ P1 then f else if ¬ P2 then f else if ¬ P3 then f else if ¬ P4 then f else if ¬ P5 then f else t) = if P1 ∧ P2 ∧ P3 ∧ P4 ∧ P5 then t else f := by
  by_cases h1 : P1 <;> by_cases h2 : P2 <;> by_cases h3 : P3 <;> by_cases h4 : P4 <;> by_cases h5 : P5 <;> simp [h1, h2, h3, h4, h5]
theorem all_s {P : Nat → Prop} {n : Nat} : (∀ j, j < n + 1 → P j) ↔ (∀ j, j < n → P j) ∧ P n := by
  constructor
  · intro h; exact ⟨fun j hj => h j (by omega), h n (by omega)⟩
  · intro h j hj
    by_cases e : j = n
    · subst e; exact h.2
    · exact h.1 j (by omega)
theorem all_z {P : Nat → Prop} : (∀ j, j < 0 → P j) ↔ True := ⟨fun _ => trivial, fun _ j hj => absurd hj (by omega)⟩
theorem WD_0 {A : Nat → Nat → Int32} {n k a e : Nat} : WD A n k a e 0 ↔ (k = 1 ∧ e = a + 7) ∧ bt A n (a + 0) = 100 ∧ bt A n (a + 1) = 117 ∧ bt A n (a + 2) = 99 ∧ bt A n (a + 3) = 104 ∧ bt A n (a + 4) = 101 ∧ bt A n (a + 5) = 115 ∧ bt A n (a + 6) = 115 := by
  have e : WD A n k a e 0 ↔ k = 1 ∧ e = a + 7 ∧ ∀ j, j < 7 → bt A n (a + j) = wb 0 j := Iff.rfl
  rw [e]
  constructor
  · rintro ⟨h1, h2, h3⟩
    exact ⟨⟨h1, h2⟩, h3 0 (by decide), h3 1 (by decide), h3 2 (by decide), h3 3 (by decide), h3 4 (by decide), h3 5 (by decide), h3 6 (by decide)⟩
  · rintro ⟨⟨h1, h2⟩, c0, c1, c2, c3, c4, c5, c6⟩
    refine ⟨h1, h2, fun j hj => ?_⟩
    rcases (show j = 0 ∨ j = 1 ∨ j = 2 ∨ j = 3 ∨ j = 4 ∨ j = 5 ∨ j = 6 by omega) with rfl | rfl | rfl | rfl | rfl | rfl | rfl
    · exact c0
    · exact c1
    · exact c2
    · exact c3
    · exact c4
    · exact c5
    · exact c6
theorem WD_1 {A : Nat → Nat → Int32} {n k a e : Nat} : WD A n k a e 1 ↔ (k = 1 ∧ e = a + 5) ∧ bt A n (a + 0) = 99 ∧ bt A n (a + 1) = 108 ∧ bt A n (a + 2) = 101 ∧ bt A n (a + 3) = 114 ∧ bt A n (a + 4) = 107 := by
  have e : WD A n k a e 1 ↔ k = 1 ∧ e = a + 5 ∧ ∀ j, j < 5 → bt A n (a + j) = wb 1 j := Iff.rfl
  rw [e]
  constructor
  · rintro ⟨h1, h2, h3⟩
    exact ⟨⟨h1, h2⟩, h3 0 (by decide), h3 1 (by decide), h3 2 (by decide), h3 3 (by decide), h3 4 (by decide)⟩
  · rintro ⟨⟨h1, h2⟩, c0, c1, c2, c3, c4⟩
    refine ⟨h1, h2, fun j hj => ?_⟩
    rcases (show j = 0 ∨ j = 1 ∨ j = 2 ∨ j = 3 ∨ j = 4 by omega) with rfl | rfl | rfl | rfl | rfl
    · exact c0
    · exact c1
    · exact c2
    · exact c3
    · exact c4
theorem WD_2 {A : Nat → Nat → Int32} {n k a e : Nat} : WD A n k a e 2 ↔ (k = 1 ∧ e = a + 3) ∧ bt A n (a + 0) = 115 ∧ bt A n (a + 1) = 112 ∧ bt A n (a + 2) = 121 := by
  have e : WD A n k a e 2 ↔ k = 1 ∧ e = a + 3 ∧ ∀ j, j < 3 → bt A n (a + j) = wb 2 j := Iff.rfl
  rw [e]
  constructor
  · rintro ⟨h1, h2, h3⟩
    exact ⟨⟨h1, h2⟩, h3 0 (by decide), h3 1 (by decide), h3 2 (by decide)⟩
  · rintro ⟨⟨h1, h2⟩, c0, c1, c2⟩
    refine ⟨h1, h2, fun j hj => ?_⟩
    rcases (show j = 0 ∨ j = 1 ∨ j = 2 by omega) with rfl | rfl | rfl
    · exact c0
    · exact c1
    · exact c2
theorem WD_3 {A : Nat → Nat → Int32} {n k a e : Nat} : WD A n k a e 3 ↔ (k = 1 ∧ e = a + 11) ∧ bt A n (a + 0) = 108 ∧ bt A n (a + 1) = 97 ∧ bt A n (a + 2) = 109 ∧ bt A n (a + 3) = 112 ∧ bt A n (a + 4) = 108 ∧ bt A n (a + 5) = 105 ∧ bt A n (a + 6) = 103 ∧ bt A n (a + 7) = 104 ∧ bt A n (a + 8) = 116 ∧ bt A n (a + 9) = 101 ∧ bt A n (a + 10) = 114 := by
  have e : WD A n k a e 3 ↔ k = 1 ∧ e = a + 11 ∧ ∀ j, j < 11 → bt A n (a + j) = wb 3 j := Iff.rfl
  rw [e]
  constructor
  · rintro ⟨h1, h2, h3⟩
    exact ⟨⟨h1, h2⟩, h3 0 (by decide), h3 1 (by decide), h3 2 (by decide), h3 3 (by decide), h3 4 (by decide), h3 5 (by decide), h3 6 (by decide), h3 7 (by decide), h3 8 (by decide), h3 9 (by decide), h3 10 (by decide)⟩
  · rintro ⟨⟨h1, h2⟩, c0, c1, c2, c3, c4, c5, c6, c7, c8, c9, c10⟩
    refine ⟨h1, h2, fun j hj => ?_⟩
    rcases (show j = 0 ∨ j = 1 ∨ j = 2 ∨ j = 3 ∨ j = 4 ∨ j = 5 ∨ j = 6 ∨ j = 7 ∨ j = 8 ∨ j = 9 ∨ j = 10 by omega) with rfl | rfl | rfl | rfl | rfl | rfl | rfl | rfl | rfl | rfl | rfl
    · exact c0
    · exact c1
    · exact c2
    · exact c3
    · exact c4
    · exact c5
    · exact c6
    · exact c7
    · exact c8
    · exact c9
    · exact c10
theorem WD_4 {A : Nat → Nat → Int32} {n k a e : Nat} : WD A n k a e 4 ↔ (k = 1 ∧ e = a + 3) ∧ bt A n (a + 0) = 115 ∧ bt A n (a + 1) = 97 ∧ bt A n (a + 2) = 100 := by
  have e : WD A n k a e 4 ↔ k = 1 ∧ e = a + 3 ∧ ∀ j, j < 3 → bt A n (a + j) = wb 4 j := Iff.rfl
  rw [e]
  constructor
  · rintro ⟨h1, h2, h3⟩
    exact ⟨⟨h1, h2⟩, h3 0 (by decide), h3 1 (by decide), h3 2 (by decide)⟩
  · rintro ⟨⟨h1, h2⟩, c0, c1, c2⟩
    refine ⟨h1, h2, fun j hj => ?_⟩
    rcases (show j = 0 ∨ j = 1 ∨ j = 2 by omega) with rfl | rfl | rfl
    · exact c0
    · exact c1
    · exact c2
theorem WD_5 {A : Nat → Nat → Int32} {n k a e : Nat} : WD A n k a e 5 ↔ (k = 1 ∧ e = a + 6) ∧ bt A n (a + 0) = 99 ∧ bt A n (a + 1) = 111 ∧ bt A n (a + 2) = 110 ∧ bt A n (a + 3) = 115 ∧ bt A n (a + 4) = 117 ∧ bt A n (a + 5) = 108 := by
  have e : WD A n k a e 5 ↔ k = 1 ∧ e = a + 6 ∧ ∀ j, j < 6 → bt A n (a + j) = wb 5 j := Iff.rfl
  rw [e]
  constructor
  · rintro ⟨h1, h2, h3⟩
    exact ⟨⟨h1, h2⟩, h3 0 (by decide), h3 1 (by decide), h3 2 (by decide), h3 3 (by decide), h3 4 (by decide), h3 5 (by decide)⟩
  · rintro ⟨⟨h1, h2⟩, c0, c1, c2, c3, c4, c5⟩
    refine ⟨h1, h2, fun j hj => ?_⟩
    rcases (show j = 0 ∨ j = 1 ∨ j = 2 ∨ j = 3 ∨ j = 4 ∨ j = 5 by omega) with rfl | rfl | rfl | rfl | rfl | rfl
    · exact c0
    · exact c1
    · exact c2
    · exact c3
    · exact c4
    · exact c5
theorem WD_6 {A : Nat → Nat → Int32} {n k a e : Nat} : WD A n k a e 6 ↔ (k = 1 ∧ e = a + 6) ∧ bt A n (a + 0) = 98 ∧ bt A n (a + 1) = 97 ∧ bt A n (a + 2) = 116 ∧ bt A n (a + 3) = 104 ∧ bt A n (a + 4) = 101 ∧ bt A n (a + 5) = 114 := by
  have e : WD A n k a e 6 ↔ k = 1 ∧ e = a + 6 ∧ ∀ j, j < 6 → bt A n (a + j) = wb 6 j := Iff.rfl
  rw [e]
  constructor
  · rintro ⟨h1, h2, h3⟩
    exact ⟨⟨h1, h2⟩, h3 0 (by decide), h3 1 (by decide), h3 2 (by decide), h3 3 (by decide), h3 4 (by decide), h3 5 (by decide)⟩
  · rintro ⟨⟨h1, h2⟩, c0, c1, c2, c3, c4, c5⟩
    refine ⟨h1, h2, fun j hj => ?_⟩
    rcases (show j = 0 ∨ j = 1 ∨ j = 2 ∨ j = 3 ∨ j = 4 ∨ j = 5 by omega) with rfl | rfl | rfl | rfl | rfl | rfl
    · exact c0
    · exact c1
    · exact c2
    · exact c3
    · exact c4
    · exact c5
theorem WD_7 {A : Nat → Nat → Int32} {n k a e : Nat} : WD A n k a e 7 ↔ (k = 1 ∧ e = a + 2) ∧ bt A n (a + 0) = 105 ∧ bt A n (a + 1) = 110 := by
  have e : WD A n k a e 7 ↔ k = 1 ∧ e = a + 2 ∧ ∀ j, j < 2 → bt A n (a + j) = wb 7 j := Iff.rfl
  rw [e]
  constructor
  · rintro ⟨h1, h2, h3⟩
    exact ⟨⟨h1, h2⟩, h3 0 (by decide), h3 1 (by decide)⟩
  · rintro ⟨⟨h1, h2⟩, c0, c1⟩
    refine ⟨h1, h2, fun j hj => ?_⟩
    rcases (show j = 0 ∨ j = 1 by omega) with rfl | rfl
    · exact c0
    · exact c1
theorem WD_8 {A : Nat → Nat → Int32} {n k a e : Nat} : WD A n k a e 8 ↔ (k = 1 ∧ e = a + 4) ∧ bt A n (a + 0) = 119 ∧ bt A n (a + 1) = 105 ∧ bt A n (a + 2) = 116 ∧ bt A n (a + 3) = 104 := by
  have e : WD A n k a e 8 ↔ k = 1 ∧ e = a + 4 ∧ ∀ j, j < 4 → bt A n (a + j) = wb 8 j := Iff.rfl
  rw [e]
  constructor
  · rintro ⟨h1, h2, h3⟩
    exact ⟨⟨h1, h2⟩, h3 0 (by decide), h3 1 (by decide), h3 2 (by decide), h3 3 (by decide)⟩
  · rintro ⟨⟨h1, h2⟩, c0, c1, c2, c3⟩
    refine ⟨h1, h2, fun j hj => ?_⟩
    rcases (show j = 0 ∨ j = 1 ∨ j = 2 ∨ j = 3 by omega) with rfl | rfl | rfl | rfl
    · exact c0
    · exact c1
    · exact c2
    · exact c3
theorem WD_9 {A : Nat → Nat → Int32} {n k a e : Nat} : WD A n k a e 9 ↔ (k = 1 ∧ e = a + 5) ∧ bt A n (a + 0) = 107 ∧ bt A n (a + 1) = 110 ∧ bt A n (a + 2) = 111 ∧ bt A n (a + 3) = 119 ∧ bt A n (a + 4) = 115 := by
  have e : WD A n k a e 9 ↔ k = 1 ∧ e = a + 5 ∧ ∀ j, j < 5 → bt A n (a + j) = wb 9 j := Iff.rfl
  rw [e]
  constructor
  · rintro ⟨h1, h2, h3⟩
    exact ⟨⟨h1, h2⟩, h3 0 (by decide), h3 1 (by decide), h3 2 (by decide), h3 3 (by decide), h3 4 (by decide)⟩
  · rintro ⟨⟨h1, h2⟩, c0, c1, c2, c3, c4⟩
    refine ⟨h1, h2, fun j hj => ?_⟩
    rcases (show j = 0 ∨ j = 1 ∨ j = 2 ∨ j = 3 ∨ j = 4 by omega) with rfl | rfl | rfl | rfl | rfl
    · exact c0
    · exact c1
    · exact c2
    · exact c3
    · exact c4
theorem WD_10 {A : Nat → Nat → Int32} {n k a e : Nat} : WD A n k a e 10 ↔ (k = 1 ∧ e = a + 3) ∧ bt A n (a + 0) = 116 ∧ bt A n (a + 1) = 117 ∧ bt A n (a + 2) = 98 := by
  have e : WD A n k a e 10 ↔ k = 1 ∧ e = a + 3 ∧ ∀ j, j < 3 → bt A n (a + j) = wb 10 j := Iff.rfl
  rw [e]
  constructor
  · rintro ⟨h1, h2, h3⟩
    exact ⟨⟨h1, h2⟩, h3 0 (by decide), h3 1 (by decide), h3 2 (by decide)⟩
  · rintro ⟨⟨h1, h2⟩, c0, c1, c2⟩
    refine ⟨h1, h2, fun j hj => ?_⟩
    rcases (show j = 0 ∨ j = 1 ∨ j = 2 by omega) with rfl | rfl | rfl
    · exact c0
    · exact c1
    · exact c2
theorem WD_11 {A : Nat → Nat → Int32} {n k a e : Nat} : WD A n k a e 11 ↔ (k = 1 ∧ e = a + 2) ∧ bt A n (a + 0) = 111 ∧ bt A n (a + 1) = 102 := by
  have e : WD A n k a e 11 ↔ k = 1 ∧ e = a + 2 ∧ ∀ j, j < 2 → bt A n (a + j) = wb 11 j := Iff.rfl
  rw [e]
  constructor
  · rintro ⟨h1, h2, h3⟩
    exact ⟨⟨h1, h2⟩, h3 0 (by decide), h3 1 (by decide)⟩
  · rintro ⟨⟨h1, h2⟩, c0, c1⟩
    refine ⟨h1, h2, fun j hj => ?_⟩
    rcases (show j = 0 ∨ j = 1 by omega) with rfl | rfl
    · exact c0
    · exact c1
theorem WD_12 {A : Nat → Nat → Int32} {n k a e : Nat} : WD A n k a e 12 ↔ (k = 1 ∧ e = a + 5) ∧ bt A n (a + 0) = 102 ∧ bt A n (a + 1) = 114 ∧ bt A n (a + 2) = 101 ∧ bt A n (a + 3) = 115 ∧ bt A n (a + 4) = 104 := by
  have e : WD A n k a e 12 ↔ k = 1 ∧ e = a + 5 ∧ ∀ j, j < 5 → bt A n (a + j) = wb 12 j := Iff.rfl
  rw [e]
  constructor
  · rintro ⟨h1, h2, h3⟩
    exact ⟨⟨h1, h2⟩, h3 0 (by decide), h3 1 (by decide), h3 2 (by decide), h3 3 (by decide), h3 4 (by decide)⟩
  · rintro ⟨⟨h1, h2⟩, c0, c1, c2, c3, c4⟩
    refine ⟨h1, h2, fun j hj => ?_⟩
    rcases (show j = 0 ∨ j = 1 ∨ j = 2 ∨ j = 3 ∨ j = 4 by omega) with rfl | rfl | rfl | rfl | rfl
    · exact c0
    · exact c1
    · exact c2
    · exact c3
    · exact c4
theorem WD_13 {A : Nat → Nat → Int32} {n k a e : Nat} : WD A n k a e 13 ↔ (k = 1 ∧ e = a + 4) ∧ bt A n (a + 0) = 112 ∧ bt A n (a + 1) = 108 ∧ bt A n (a + 2) = 117 ∧ bt A n (a + 3) = 103 := by
  have e : WD A n k a e 13 ↔ k = 1 ∧ e = a + 4 ∧ ∀ j, j < 4 → bt A n (a + j) = wb 13 j := Iff.rfl
  rw [e]
  constructor
  · rintro ⟨h1, h2, h3⟩
    exact ⟨⟨h1, h2⟩, h3 0 (by decide), h3 1 (by decide), h3 2 (by decide), h3 3 (by decide)⟩
  · rintro ⟨⟨h1, h2⟩, c0, c1, c2, c3⟩
    refine ⟨h1, h2, fun j hj => ?_⟩
    rcases (show j = 0 ∨ j = 1 ∨ j = 2 ∨ j = 3 by omega) with rfl | rfl | rfl | rfl
    · exact c0
    · exact c1
    · exact c2
    · exact c3
