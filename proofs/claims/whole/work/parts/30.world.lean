/-! PURE ROWS: arrays as tables, the world of the reference -/
theorem rv_tab_len {α : Type} (n : Nat) (f : Nat → α) : (rv_tab n f).length = n := by simp [rv_tab]
theorem rv_tab_get {α : Type} (n : Nat) (f : Nat → α) (j : Nat) : (rv_tab n f)[j]? = if j < n then some (f j) else none := by
  by_cases h : j < n
  · simp [rv_tab, h]
  · simp [rv_tab, h]
theorem rv_tab_congr {α : Type} {n : Nat} {f g : Nat → α} (h : ∀ j, j < n → f j = g j) : rv_tab n f = rv_tab n g := by
  apply List.ext_getElem?
  intro j
  rw [rv_tab_get, rv_tab_get]
  by_cases hj : j < n
  · rw [if_pos hj, if_pos hj, h j hj]
  · rw [if_neg hj, if_neg hj]
theorem rv_tab_set (n : Nat) (f : Nat → Int32) (k : Nat) (x : Int32) : (rv_tab n f).set k x = rv_tab n (upd f k x) := by
  apply List.ext_getElem?
  intro j
  rw [List.getElem?_set, rv_tab_len, rv_tab_get, rv_tab_get]
  by_cases hk : k = j
  · subst hk
    by_cases hl : k < n
    · simp [hl, upd]
    · simp [hl]
  · have hk' : ¬ j = k := fun q => hk q.symm
    simp [hk, upd, hk']
theorem rv_ix_tab {α : Type} {n : Nat} (hn : n < 2 ^ 31) (f : Nat → α) {j : Nat} (h : j < n) : rv_ix (rv_tab n f) (nI j) = some (f j) := by
  have h1 : j < 2 ^ 31 := Nat.lt_trans h hn
  unfold rv_ix
  rw [if_neg (nI_pos h1), nI_clamp h1, rv_tab_get, if_pos h]
theorem rv_getD_tab (n : Nat) (f : Nat → Int32) {j : Nat} (h : j < n) : (rv_tab n f).getD j 0 = f j := by
  rw [List.getD_eq_getElem?_getD, rv_tab_get, if_pos h]
  rfl
theorem rv_ldI_tab {w : rv_W} {a n : Nat} {f : Nat → Int32} (ha : ¬ a = 3000) (hw : w[a]? = some (.inl (0, .inl (rv_tab n f)))) (hn : n < 2 ^ 31) {j : Nat} (h : j < n) : rv_ldI w a (nI j) = some (f j) := by
  unfold rv_ldI rv_ints
  rw [if_neg ha, hw]
  exact rv_ix_tab hn f h
theorem rv_stI_tab {w : rv_W} {a n : Nat} {f : Nat → Int32} (hw : w[a]? = some (.inl (0, .inl (rv_tab n f)))) (hn : n < 2 ^ 31) {j : Nat} (h : j < n) (x : Int32) : rv_stI w a (nI j) x = some (w.set a (.inl (0, .inl (rv_tab n (upd f j x))))) := by
  unfold rv_stI rv_ints
  rw [hw]
  simp only [Option.bind_some]
  rw [rv_ix_tab hn f h]
  simp only [Option.bind_some]
  rw [nI_clamp (Nat.lt_trans h hn), rv_tab_set]
theorem rv_stB_tab {w : rv_W} {a n : Nat} {f : Nat → Int32} (hw : w[a]? = some (.inl (1, .inl (rv_tab n f)))) (hn : n < 2 ^ 31) {j : Nat} (h : j < n) (x : Int32) : rv_stB w a (nI j) x = some (w.set a (.inl (1, .inl (rv_tab n (upd f j x.toInt8.toInt32))))) := by
  unfold rv_stB rv_byts
  rw [hw]
  simp only [Option.bind_some]
  rw [rv_ix_tab hn f h]
  simp only [Option.bind_some]
  rw [nI_clamp (Nat.lt_trans h hn), rv_tab_set]
theorem rv_ldB_tab {w : rv_W} {a n : Nat} {f : Nat → Int32} (ha : a < 2000) (hw : w[a]? = some (.inl (1, .inl (rv_tab n f)))) (hn : n < 2 ^ 31) {j : Nat} (h : j < n) : rv_ldB w a (nI j) = some (f j) := by
  unfold rv_ldB rv_byts
  rw [if_neg (Nat.not_le.mpr ha), hw]
  exact rv_ix_tab hn f h
/-! branches and answers -/
theorem cb_eq {α : Type} (x y : Int32) (a b : α) : cond (rv_cnd .eq x y) a b = if x = y then a else b := by
  by_cases h : x = y
  · rw [if_pos h, show rv_cnd .eq x y = true from @decide_eq_true _ (Classical.propDecidable _) h]; rfl
  · rw [if_neg h, show rv_cnd .eq x y = false from @decide_eq_false _ (Classical.propDecidable _) h]; rfl
theorem cb_ne {α : Type} (x y : Int32) (a b : α) : cond (rv_cnd .ne x y) a b = if x = y then b else a := by
  by_cases h : x = y
  · rw [if_pos h, show rv_cnd .ne x y = false from @decide_eq_false _ (Classical.propDecidable _) (fun q => q h)]; rfl
  · rw [if_neg h, show rv_cnd .ne x y = true from @decide_eq_true _ (Classical.propDecidable _) h]; rfl
theorem cb_lt {α : Type} (x y : Int32) (a b : α) : cond (rv_cnd .lt x y) a b = if x < y then a else b := by
  by_cases h : x < y
  · rw [if_pos h, show rv_cnd .lt x y = true from @decide_eq_true _ (Classical.propDecidable _) h]; rfl
  · rw [if_neg h, show rv_cnd .lt x y = false from @decide_eq_false _ (Classical.propDecidable _) h]; rfl
theorem cb_ge {α : Type} (x y : Int32) (a b : α) : cond (rv_cnd .ge x y) a b = if y ≤ x then a else b := by
  by_cases h : y ≤ x
  · rw [if_pos h, show rv_cnd .ge x y = true from @decide_eq_true _ (Classical.propDecidable _) h]; rfl
  · rw [if_neg h, show rv_cnd .ge x y = false from @decide_eq_false _ (Classical.propDecidable _) h]; rfl
theorem cb_gt {α : Type} (x y : Int32) (a b : α) : cond (rv_cnd .gt x y) a b = if y < x then a else b := by
  by_cases h : y < x
  · rw [if_pos h, show rv_cnd .gt x y = true from @decide_eq_true _ (Classical.propDecidable _) h]; rfl
  · rw [if_neg h, show rv_cnd .gt x y = false from @decide_eq_false _ (Classical.propDecidable _) h]; rfl
theorem cb_le {α : Type} (x y : Int32) (a b : α) : cond (rv_cnd .le x y) a b = if x ≤ y then a else b := by
  by_cases h : x ≤ y
  · rw [if_pos h, show rv_cnd .le x y = true from @decide_eq_true _ (Classical.propDecidable _) h]; rfl
  · rw [if_neg h, show rv_cnd .le x y = false from @decide_eq_false _ (Classical.propDecidable _) h]; rfl
theorem cb_q {α : Type} (x y : Int32) (a b : α) : cond (rv_eq x y) a b = if x = y then a else b := by
  by_cases h : x = y
  · rw [if_pos h, rv_eq_t h]; rfl
  · rw [if_neg h, rv_eq_f h]; rfl
theorem cb_qL {α : Type} (x y : Int64) (a b : α) : cond (rv_eqL x y) a b = if x = y then a else b := by
  by_cases h : x = y
  · rw [if_pos h, show rv_eqL x y = true from @decide_eq_true _ (Classical.propDecidable _) h]; rfl
  · rw [if_neg h, show rv_eqL x y = false from @decide_eq_false _ (Classical.propDecidable _) h]; rfl
theorem ri_s (x : Int32) (w : rv_W) : rv_ri (some (some (.int x), w)) = some (x, w) := rfl
theorem rl_s (x : Int64) (w : rv_W) : rv_rl (some (some (.long x), w)) = some (x, w) := rfl
theorem rr_s (x : Nat) (w : rv_W) : rv_rr (some (some (.ref x), w)) = some (x, w) := rfl
theorem rv_s (w : rv_W) : rv_rv (some (none, w)) = some w := rfl
theorem bz_1 : rv_bz 1 = true := rfl
theorem bz_0 : rv_bz 0 = true := rfl
theorem d4_0 : ¬ (4 : Int32) = 0 := by decide
theorem d8_0 : ¬ (8 : Int32) = 0 := by decide
theorem d3_0 : ¬ (3 : Int32) = 0 := by decide
theorem d10_0 : ¬ (10 : Int32) = 0 := by decide

/-- the reference: its arrays by their places, its numbers by their fields -/
def mM (A : Nat → Nat → Int32) (r : Nat → Int32) : rv_W := [.inr (4, [.ref 1, .ref 2, .ref 3, .ref 4, .int (r 4), .ref 5, .ref 6, .int (r 7), .ref 7, .ref 8, .ref 9, .int (r 11), .int (r 12), .int (r 13), .int (r 14), .int (r 15)]), .inl (0, .inl (rv_tab 96 (A 1))), .inl (0, .inl (rv_tab 96 (A 2))), .inl (0, .inl (rv_tab 96 (A 3))), .inl (0, .inl (rv_tab 96 (A 4))), .inl (0, .inl (rv_tab 8 (A 5))), .inl (0, .inl (rv_tab 120 (A 6))), .inl (0, .inl (rv_tab 4 (A 7))), .inl (0, .inl (rv_tab 4 (A 8))), .inl (0, .inl (rv_tab 160 (A 9)))]
def upA (A : Nat → Nat → Int32) (p : Nat) (g : Nat → Int32) : Nat → Nat → Int32 := fun q => if q = p then g else A q
def upB (A : Nat → Nat → Int32) (p j : Nat) (x : Int32) : Nat → Nat → Int32 := upA A p (upd (A p) j x)
theorem upA_s (A : Nat → Nat → Int32) (p : Nat) (g : Nat → Int32) : upA A p g p = g := by simp [upA]
theorem upA_n (A : Nat → Nat → Int32) {p q : Nat} (h : ¬ q = p) (g : Nat → Int32) : upA A p g q = A q := by simp [upA, h]
theorem ldM1 (A : Nat → Nat → Int32) (r : Nat → Int32) {j : Nat} (h : j < 96) : rv_ldI (mM A r) 1 (nI j) = some (A 1 j) := rv_ldI_tab (by decide) rfl (by decide) h
theorem stM1 (A : Nat → Nat → Int32) (r : Nat → Int32) {j : Nat} (h : j < 96) (x : Int32) : rv_stI (mM A r) 1 (nI j) x = some (mM (upB A 1 j x) r) := by
  rw [rv_stI_tab (n := 96) (f := A 1) rfl (by decide) h x]
  rfl
theorem ldM2 (A : Nat → Nat → Int32) (r : Nat → Int32) {j : Nat} (h : j < 96) : rv_ldI (mM A r) 2 (nI j) = some (A 2 j) := rv_ldI_tab (by decide) rfl (by decide) h
theorem stM2 (A : Nat → Nat → Int32) (r : Nat → Int32) {j : Nat} (h : j < 96) (x : Int32) : rv_stI (mM A r) 2 (nI j) x = some (mM (upB A 2 j x) r) := by
  rw [rv_stI_tab (n := 96) (f := A 2) rfl (by decide) h x]
  rfl
theorem ldM3 (A : Nat → Nat → Int32) (r : Nat → Int32) {j : Nat} (h : j < 96) : rv_ldI (mM A r) 3 (nI j) = some (A 3 j) := rv_ldI_tab (by decide) rfl (by decide) h
theorem stM3 (A : Nat → Nat → Int32) (r : Nat → Int32) {j : Nat} (h : j < 96) (x : Int32) : rv_stI (mM A r) 3 (nI j) x = some (mM (upB A 3 j x) r) := by
  rw [rv_stI_tab (n := 96) (f := A 3) rfl (by decide) h x]
  rfl
theorem ldM4 (A : Nat → Nat → Int32) (r : Nat → Int32) {j : Nat} (h : j < 96) : rv_ldI (mM A r) 4 (nI j) = some (A 4 j) := rv_ldI_tab (by decide) rfl (by decide) h
theorem stM4 (A : Nat → Nat → Int32) (r : Nat → Int32) {j : Nat} (h : j < 96) (x : Int32) : rv_stI (mM A r) 4 (nI j) x = some (mM (upB A 4 j x) r) := by
  rw [rv_stI_tab (n := 96) (f := A 4) rfl (by decide) h x]
  rfl
theorem ldM5 (A : Nat → Nat → Int32) (r : Nat → Int32) {j : Nat} (h : j < 8) : rv_ldI (mM A r) 5 (nI j) = some (A 5 j) := rv_ldI_tab (by decide) rfl (by decide) h
theorem stM5 (A : Nat → Nat → Int32) (r : Nat → Int32) {j : Nat} (h : j < 8) (x : Int32) : rv_stI (mM A r) 5 (nI j) x = some (mM (upB A 5 j x) r) := by
  rw [rv_stI_tab (n := 8) (f := A 5) rfl (by decide) h x]
  rfl
theorem ldM6 (A : Nat → Nat → Int32) (r : Nat → Int32) {j : Nat} (h : j < 120) : rv_ldI (mM A r) 6 (nI j) = some (A 6 j) := rv_ldI_tab (by decide) rfl (by decide) h
theorem stM6 (A : Nat → Nat → Int32) (r : Nat → Int32) {j : Nat} (h : j < 120) (x : Int32) : rv_stI (mM A r) 6 (nI j) x = some (mM (upB A 6 j x) r) := by
  rw [rv_stI_tab (n := 120) (f := A 6) rfl (by decide) h x]
  rfl
theorem ldM7 (A : Nat → Nat → Int32) (r : Nat → Int32) {j : Nat} (h : j < 4) : rv_ldI (mM A r) 7 (nI j) = some (A 7 j) := rv_ldI_tab (by decide) rfl (by decide) h
theorem stM7 (A : Nat → Nat → Int32) (r : Nat → Int32) {j : Nat} (h : j < 4) (x : Int32) : rv_stI (mM A r) 7 (nI j) x = some (mM (upB A 7 j x) r) := by
  rw [rv_stI_tab (n := 4) (f := A 7) rfl (by decide) h x]
  rfl
theorem ldM8 (A : Nat → Nat → Int32) (r : Nat → Int32) {j : Nat} (h : j < 4) : rv_ldI (mM A r) 8 (nI j) = some (A 8 j) := rv_ldI_tab (by decide) rfl (by decide) h
theorem stM8 (A : Nat → Nat → Int32) (r : Nat → Int32) {j : Nat} (h : j < 4) (x : Int32) : rv_stI (mM A r) 8 (nI j) x = some (mM (upB A 8 j x) r) := by
  rw [rv_stI_tab (n := 4) (f := A 8) rfl (by decide) h x]
  rfl
theorem ldM9 (A : Nat → Nat → Int32) (r : Nat → Int32) {j : Nat} (h : j < 160) : rv_ldI (mM A r) 9 (nI j) = some (A 9 j) := rv_ldI_tab (by decide) rfl (by decide) h
theorem stM9 (A : Nat → Nat → Int32) (r : Nat → Int32) {j : Nat} (h : j < 160) (x : Int32) : rv_stI (mM A r) 9 (nI j) x = some (mM (upB A 9 j x) r) := by
  rw [rv_stI_tab (n := 160) (f := A 9) rfl (by decide) h x]
  rfl
theorem lfM0 (A : Nat → Nat → Int32) (r : Nat → Int32) : rv_ldFR (mM A r) 0 4 0 = some 1 := rfl
theorem lfM1 (A : Nat → Nat → Int32) (r : Nat → Int32) : rv_ldFR (mM A r) 0 4 1 = some 2 := rfl
theorem lfM2 (A : Nat → Nat → Int32) (r : Nat → Int32) : rv_ldFR (mM A r) 0 4 2 = some 3 := rfl
theorem lfM3 (A : Nat → Nat → Int32) (r : Nat → Int32) : rv_ldFR (mM A r) 0 4 3 = some 4 := rfl
theorem lfM5 (A : Nat → Nat → Int32) (r : Nat → Int32) : rv_ldFR (mM A r) 0 4 5 = some 5 := rfl
theorem lfM6 (A : Nat → Nat → Int32) (r : Nat → Int32) : rv_ldFR (mM A r) 0 4 6 = some 6 := rfl
theorem lfM8 (A : Nat → Nat → Int32) (r : Nat → Int32) : rv_ldFR (mM A r) 0 4 8 = some 7 := rfl
theorem lfM9 (A : Nat → Nat → Int32) (r : Nat → Int32) : rv_ldFR (mM A r) 0 4 9 = some 8 := rfl
theorem lfM10 (A : Nat → Nat → Int32) (r : Nat → Int32) : rv_ldFR (mM A r) 0 4 10 = some 9 := rfl
theorem lgM4 (A : Nat → Nat → Int32) (r : Nat → Int32) : rv_ldFI (mM A r) 0 4 4 = some (r 4) := rfl
theorem sgM4 (A : Nat → Nat → Int32) (r : Nat → Int32) (x : Int32) : rv_stF (mM A r) 0 4 4 (.int x) = some (mM A (upd r 4 x)) := rfl
theorem lgM7 (A : Nat → Nat → Int32) (r : Nat → Int32) : rv_ldFI (mM A r) 0 4 7 = some (r 7) := rfl
theorem sgM7 (A : Nat → Nat → Int32) (r : Nat → Int32) (x : Int32) : rv_stF (mM A r) 0 4 7 (.int x) = some (mM A (upd r 7 x)) := rfl
theorem lgM11 (A : Nat → Nat → Int32) (r : Nat → Int32) : rv_ldFI (mM A r) 0 4 11 = some (r 11) := rfl
theorem sgM11 (A : Nat → Nat → Int32) (r : Nat → Int32) (x : Int32) : rv_stF (mM A r) 0 4 11 (.int x) = some (mM A (upd r 11 x)) := rfl
theorem lgM12 (A : Nat → Nat → Int32) (r : Nat → Int32) : rv_ldFI (mM A r) 0 4 12 = some (r 12) := rfl
theorem sgM12 (A : Nat → Nat → Int32) (r : Nat → Int32) (x : Int32) : rv_stF (mM A r) 0 4 12 (.int x) = some (mM A (upd r 12 x)) := rfl
theorem lgM13 (A : Nat → Nat → Int32) (r : Nat → Int32) : rv_ldFI (mM A r) 0 4 13 = some (r 13) := rfl
theorem sgM13 (A : Nat → Nat → Int32) (r : Nat → Int32) (x : Int32) : rv_stF (mM A r) 0 4 13 (.int x) = some (mM A (upd r 13 x)) := rfl
theorem lgM14 (A : Nat → Nat → Int32) (r : Nat → Int32) : rv_ldFI (mM A r) 0 4 14 = some (r 14) := rfl
theorem sgM14 (A : Nat → Nat → Int32) (r : Nat → Int32) (x : Int32) : rv_stF (mM A r) 0 4 14 (.int x) = some (mM A (upd r 14 x)) := rfl
theorem lgM15 (A : Nat → Nat → Int32) (r : Nat → Int32) : rv_ldFI (mM A r) 0 4 15 = some (r 15) := rfl
theorem sgM15 (A : Nat → Nat → Int32) (r : Nat → Int32) (x : Int32) : rv_stF (mM A r) 0 4 15 (.int x) = some (mM A (upd r 15 x)) := rfl
theorem obM (A : Nat → Nat → Int32) (r : Nat → Int32) : (rv_obj (mM A r) 0 4).isSome = true := rfl
theorem mM_congr {A B : Nat → Nat → Int32} (r : Nat → Int32) (h1 : ∀ j, j < 96 → A 1 j = B 1 j) (h2 : ∀ j, j < 96 → A 2 j = B 2 j) (h3 : ∀ j, j < 96 → A 3 j = B 3 j) (h4 : ∀ j, j < 96 → A 4 j = B 4 j) (h5 : ∀ j, j < 8 → A 5 j = B 5 j) (h6 : ∀ j, j < 120 → A 6 j = B 6 j) (h7 : ∀ j, j < 4 → A 7 j = B 7 j) (h8 : ∀ j, j < 4 → A 8 j = B 8 j) (h9 : ∀ j, j < 160 → A 9 j = B 9 j) : mM A r = mM B r := by
  unfold mM
  rw [rv_tab_congr h1, rv_tab_congr h2, rv_tab_congr h3, rv_tab_congr h4, rv_tab_congr h5, rv_tab_congr h6, rv_tab_congr h7, rv_tab_congr h8, rv_tab_congr h9]
