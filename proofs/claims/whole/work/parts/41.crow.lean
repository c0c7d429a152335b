/-! ONE SPA: row j of the class's world is s -/
def cR (S : Nat → Nat → Int32) (j : Nat) (s : Nat → Int32) (F : Nat → Nat → Int32) (rb : Nat) : rv_W := mC (upA S j s) F rb
theorem cR_self (S : Nat → Nat → Int32) (j : Nat) (F : Nat → Nat → Int32) (rb : Nat) : cR S j (S j) F rb = mC S F rb := by unfold cR; rw [upA_self]
theorem spC_congr (b : Nat) {s q : Nat → Int32} (h : ∀ i, i ≤ 96 → s i = q i) : spC b s = spC b q := by
  unfold spC
  rw [h 0 (by decide), h 1 (by decide), h 2 (by decide), h 3 (by decide), h 96 (by decide), rv_tab_congr (n := 10) (f := fun k => s (4 + k)) (g := fun k => q (4 + k)) (fun k hk => h _ (by omega)), rv_tab_congr (n := 40) (f := fun k => s (14 + k)) (g := fun k => q (14 + k)) (fun k hk => h _ (by omega)), rv_tab_congr (n := 8) (f := fun k => s (54 + 4 * k + 0)) (g := fun k => q (54 + 4 * k + 0)) (fun k hk => h _ (by omega)), rv_tab_congr (n := 8) (f := fun k => s (54 + 4 * k + 1)) (g := fun k => q (54 + 4 * k + 1)) (fun k hk => h _ (by omega)), rv_tab_congr (n := 8) (f := fun k => s (54 + 4 * k + 2)) (g := fun k => q (54 + 4 * k + 2)) (fun k hk => h _ (by omega)), rv_tab_congr (n := 8) (f := fun k => s (54 + 4 * k + 3)) (g := fun k => q (54 + 4 * k + 3)) (fun k hk => h _ (by omega)), rv_tab_congr (n := 10) (f := fun k => s (86 + k)) (g := fun k => q (86 + k)) (fun k hk => h _ (by omega))]
theorem mC_congr {S T : Nat → Nat → Int32} (F : Nat → Nat → Int32) (rb : Nat) (h : ∀ j, j < 3 → ∀ i, i ≤ 96 → S j i = T j i) : mC S F rb = mC T F rb := by
  unfold mC
  rw [spC_congr 1 (h 0 (by decide)), spC_congr 9 (h 1 (by decide)), spC_congr 17 (h 2 (by decide))]
theorem cR_congr (S : Nat → Nat → Int32) (j : Nat) (F : Nat → Nat → Int32) (rb : Nat) {s q : Nat → Int32} (h : ∀ i, i ≤ 96 → s i = q i) : cR S j s F rb = cR S j q F rb := by
  refine mC_congr F rb (fun k _ i hi => ?_)
  unfold upA
  by_cases e : k = j
  · rw [if_pos e, if_pos e]; exact h i hi
  · rw [if_neg e, if_neg e]
theorem upB_up (S : Nat → Nat → Int32) (j : Nat) (s : Nat → Int32) (i : Nat) (x : Int32) : upB (upA S j s) j i x = upA S j (upd s i x) := by unfold upB; rw [upA_upA, upA_s]
theorem cf1 (S : Nat → Nat → Int32) {j : Nat} (hj : j < 3) (s : Nat → Int32) (F : Nat → Nat → Int32) (rb : Nat) : rv_ldFR (cR S j s F rb) (sp j) 1 0 = some (sa j 1) := lfS1 _ F rb hj
theorem cl1 (S : Nat → Nat → Int32) {j : Nat} (hj : j < 3) (s : Nat → Int32) (F : Nat → Nat → Int32) (rb : Nat) {k : Nat} (h : k < 10) : rv_ldI (cR S j s F rb) (sa j 1) (nI k) = some (s (4 + k)) := by
  unfold cR
  rw [ldS1 _ F rb hj h, upA_s]
theorem ct1 (S : Nat → Nat → Int32) {j : Nat} (hj : j < 3) (s : Nat → Int32) (F : Nat → Nat → Int32) (rb : Nat) {k : Nat} (h : k < 10) (x : Int32) : rv_stI (cR S j s F rb) (sa j 1) (nI k) x = some (cR S j (upd s (4 + k) x) F rb) := by
  unfold cR
  rw [stS1 _ F rb hj h, upB_up]
theorem cf2 (S : Nat → Nat → Int32) {j : Nat} (hj : j < 3) (s : Nat → Int32) (F : Nat → Nat → Int32) (rb : Nat) : rv_ldFR (cR S j s F rb) (sp j) 1 1 = some (sa j 2) := lfS2 _ F rb hj
theorem cl2 (S : Nat → Nat → Int32) {j : Nat} (hj : j < 3) (s : Nat → Int32) (F : Nat → Nat → Int32) (rb : Nat) {k : Nat} (h : k < 40) : rv_ldI (cR S j s F rb) (sa j 2) (nI k) = some (s (14 + k)) := by
  unfold cR
  rw [ldS2 _ F rb hj h, upA_s]
theorem ct2 (S : Nat → Nat → Int32) {j : Nat} (hj : j < 3) (s : Nat → Int32) (F : Nat → Nat → Int32) (rb : Nat) {k : Nat} (h : k < 40) (x : Int32) : rv_stI (cR S j s F rb) (sa j 2) (nI k) x = some (cR S j (upd s (14 + k) x) F rb) := by
  unfold cR
  rw [stS2 _ F rb hj h, upB_up]
theorem cf3 (S : Nat → Nat → Int32) {j : Nat} (hj : j < 3) (s : Nat → Int32) (F : Nat → Nat → Int32) (rb : Nat) : rv_ldFR (cR S j s F rb) (sp j) 1 2 = some (sa j 3) := lfS3 _ F rb hj
theorem cl3 (S : Nat → Nat → Int32) {j : Nat} (hj : j < 3) (s : Nat → Int32) (F : Nat → Nat → Int32) (rb : Nat) {k : Nat} (h : k < 8) : rv_ldI (cR S j s F rb) (sa j 3) (nI k) = some (s (54 + 4 * k + 0)) := by
  unfold cR
  rw [ldS3 _ F rb hj h, upA_s]
theorem ct3 (S : Nat → Nat → Int32) {j : Nat} (hj : j < 3) (s : Nat → Int32) (F : Nat → Nat → Int32) (rb : Nat) {k : Nat} (h : k < 8) (x : Int32) : rv_stI (cR S j s F rb) (sa j 3) (nI k) x = some (cR S j (upd s (54 + 4 * k + 0) x) F rb) := by
  unfold cR
  rw [stS3 _ F rb hj h, upB_up]
theorem cf4 (S : Nat → Nat → Int32) {j : Nat} (hj : j < 3) (s : Nat → Int32) (F : Nat → Nat → Int32) (rb : Nat) : rv_ldFR (cR S j s F rb) (sp j) 1 3 = some (sa j 4) := lfS4 _ F rb hj
theorem cl4 (S : Nat → Nat → Int32) {j : Nat} (hj : j < 3) (s : Nat → Int32) (F : Nat → Nat → Int32) (rb : Nat) {k : Nat} (h : k < 8) : rv_ldI (cR S j s F rb) (sa j 4) (nI k) = some (s (54 + 4 * k + 1)) := by
  unfold cR
  rw [ldS4 _ F rb hj h, upA_s]
theorem ct4 (S : Nat → Nat → Int32) {j : Nat} (hj : j < 3) (s : Nat → Int32) (F : Nat → Nat → Int32) (rb : Nat) {k : Nat} (h : k < 8) (x : Int32) : rv_stI (cR S j s F rb) (sa j 4) (nI k) x = some (cR S j (upd s (54 + 4 * k + 1) x) F rb) := by
  unfold cR
  rw [stS4 _ F rb hj h, upB_up]
theorem cf5 (S : Nat → Nat → Int32) {j : Nat} (hj : j < 3) (s : Nat → Int32) (F : Nat → Nat → Int32) (rb : Nat) : rv_ldFR (cR S j s F rb) (sp j) 1 4 = some (sa j 5) := lfS5 _ F rb hj
theorem cl5 (S : Nat → Nat → Int32) {j : Nat} (hj : j < 3) (s : Nat → Int32) (F : Nat → Nat → Int32) (rb : Nat) {k : Nat} (h : k < 8) : rv_ldI (cR S j s F rb) (sa j 5) (nI k) = some (s (54 + 4 * k + 2)) := by
  unfold cR
  rw [ldS5 _ F rb hj h, upA_s]
theorem ct5 (S : Nat → Nat → Int32) {j : Nat} (hj : j < 3) (s : Nat → Int32) (F : Nat → Nat → Int32) (rb : Nat) {k : Nat} (h : k < 8) (x : Int32) : rv_stI (cR S j s F rb) (sa j 5) (nI k) x = some (cR S j (upd s (54 + 4 * k + 2) x) F rb) := by
  unfold cR
  rw [stS5 _ F rb hj h, upB_up]
theorem cf6 (S : Nat → Nat → Int32) {j : Nat} (hj : j < 3) (s : Nat → Int32) (F : Nat → Nat → Int32) (rb : Nat) : rv_ldFR (cR S j s F rb) (sp j) 1 5 = some (sa j 6) := lfS6 _ F rb hj
theorem cl6 (S : Nat → Nat → Int32) {j : Nat} (hj : j < 3) (s : Nat → Int32) (F : Nat → Nat → Int32) (rb : Nat) {k : Nat} (h : k < 8) : rv_ldI (cR S j s F rb) (sa j 6) (nI k) = some (s (54 + 4 * k + 3)) := by
  unfold cR
  rw [ldS6 _ F rb hj h, upA_s]
theorem ct6 (S : Nat → Nat → Int32) {j : Nat} (hj : j < 3) (s : Nat → Int32) (F : Nat → Nat → Int32) (rb : Nat) {k : Nat} (h : k < 8) (x : Int32) : rv_stI (cR S j s F rb) (sa j 6) (nI k) x = some (cR S j (upd s (54 + 4 * k + 3) x) F rb) := by
  unfold cR
  rw [stS6 _ F rb hj h, upB_up]
theorem cf7 (S : Nat → Nat → Int32) {j : Nat} (hj : j < 3) (s : Nat → Int32) (F : Nat → Nat → Int32) (rb : Nat) : rv_ldFR (cR S j s F rb) (sp j) 1 6 = some (sa j 7) := lfS7 _ F rb hj
theorem cl7 (S : Nat → Nat → Int32) {j : Nat} (hj : j < 3) (s : Nat → Int32) (F : Nat → Nat → Int32) (rb : Nat) {k : Nat} (h : k < 10) : rv_ldI (cR S j s F rb) (sa j 7) (nI k) = some (s (86 + k)) := by
  unfold cR
  rw [ldS7 _ F rb hj h, upA_s]
theorem ct7 (S : Nat → Nat → Int32) {j : Nat} (hj : j < 3) (s : Nat → Int32) (F : Nat → Nat → Int32) (rb : Nat) {k : Nat} (h : k < 10) (x : Int32) : rv_stI (cR S j s F rb) (sa j 7) (nI k) x = some (cR S j (upd s (86 + k) x) F rb) := by
  unfold cR
  rw [stS7 _ F rb hj h, upB_up]
theorem cg7 (S : Nat → Nat → Int32) {j : Nat} (hj : j < 3) (s : Nat → Int32) (F : Nat → Nat → Int32) (rb : Nat) : rv_ldFI (cR S j s F rb) (sp j) 1 7 = some (s 0) := by
  unfold cR
  rw [lgS7 _ F rb hj, upA_s]
theorem ch7 (S : Nat → Nat → Int32) {j : Nat} (hj : j < 3) (s : Nat → Int32) (F : Nat → Nat → Int32) (rb : Nat) (x : Int32) : rv_stF (cR S j s F rb) (sp j) 1 7 (.int x) = some (cR S j (upd s 0 x) F rb) := by
  unfold cR
  rw [sgS7 _ F rb hj, upB_up]
theorem cg8 (S : Nat → Nat → Int32) {j : Nat} (hj : j < 3) (s : Nat → Int32) (F : Nat → Nat → Int32) (rb : Nat) : rv_ldFI (cR S j s F rb) (sp j) 1 8 = some (s 2) := by
  unfold cR
  rw [lgS8 _ F rb hj, upA_s]
theorem ch8 (S : Nat → Nat → Int32) {j : Nat} (hj : j < 3) (s : Nat → Int32) (F : Nat → Nat → Int32) (rb : Nat) (x : Int32) : rv_stF (cR S j s F rb) (sp j) 1 8 (.int x) = some (cR S j (upd s 2 x) F rb) := by
  unfold cR
  rw [sgS8 _ F rb hj, upB_up]
theorem cg9 (S : Nat → Nat → Int32) {j : Nat} (hj : j < 3) (s : Nat → Int32) (F : Nat → Nat → Int32) (rb : Nat) : rv_ldFI (cR S j s F rb) (sp j) 1 9 = some (s 1) := by
  unfold cR
  rw [lgS9 _ F rb hj, upA_s]
theorem ch9 (S : Nat → Nat → Int32) {j : Nat} (hj : j < 3) (s : Nat → Int32) (F : Nat → Nat → Int32) (rb : Nat) (x : Int32) : rv_stF (cR S j s F rb) (sp j) 1 9 (.int x) = some (cR S j (upd s 1 x) F rb) := by
  unfold cR
  rw [sgS9 _ F rb hj, upB_up]
theorem cg10 (S : Nat → Nat → Int32) {j : Nat} (hj : j < 3) (s : Nat → Int32) (F : Nat → Nat → Int32) (rb : Nat) : rv_ldFI (cR S j s F rb) (sp j) 1 10 = some (s 3) := by
  unfold cR
  rw [lgS10 _ F rb hj, upA_s]
theorem ch10 (S : Nat → Nat → Int32) {j : Nat} (hj : j < 3) (s : Nat → Int32) (F : Nat → Nat → Int32) (rb : Nat) (x : Int32) : rv_stF (cR S j s F rb) (sp j) 1 10 (.int x) = some (cR S j (upd s 3 x) F rb) := by
  unfold cR
  rw [sgS10 _ F rb hj, upB_up]
theorem cg11 (S : Nat → Nat → Int32) {j : Nat} (hj : j < 3) (s : Nat → Int32) (F : Nat → Nat → Int32) (rb : Nat) : rv_ldFI (cR S j s F rb) (sp j) 1 11 = some (s 96) := by
  unfold cR
  rw [lgS11 _ F rb hj, upA_s]
theorem ch11 (S : Nat → Nat → Int32) {j : Nat} (hj : j < 3) (s : Nat → Int32) (F : Nat → Nat → Int32) (rb : Nat) (x : Int32) : rv_stF (cR S j s F rb) (sp j) 1 11 (.int x) = some (cR S j (upd s 96 x) F rb) := by
  unfold cR
  rw [sgS11 _ F rb hj, upB_up]
theorem co (S : Nat → Nat → Int32) {j : Nat} (hj : j < 3) (s : Nat → Int32) (F : Nat → Nat → Int32) (rb : Nat) : (rv_obj (cR S j s F rb) (sp j) 1).isSome = true := obS _ F rb hj
