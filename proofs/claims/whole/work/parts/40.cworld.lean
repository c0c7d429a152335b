/-! THE CLASS'S WORLD: three spas as rows S 0 (spa), S 1 (kept), S 2 (draft), index 96 is gone; F: all else -/
def spC (b : Nat) (s : Nat → Int32) : List rv_E := [.inr (1, [.ref (b + 1), .ref (b + 2), .ref (b + 3), .ref (b + 4), .ref (b + 5), .ref (b + 6), .ref (b + 7), .int (s 0), .int (s 2), .int (s 1), .int (s 3), .int (s 96)]), .inl (0, .inl (rv_tab 10 (fun k => s (4 + k)))), .inl (0, .inl (rv_tab 40 (fun k => s (14 + k)))), .inl (0, .inl (rv_tab 8 (fun k => s (54 + 4 * k + 0)))), .inl (0, .inl (rv_tab 8 (fun k => s (54 + 4 * k + 1)))), .inl (0, .inl (rv_tab 8 (fun k => s (54 + 4 * k + 2)))), .inl (0, .inl (rv_tab 8 (fun k => s (54 + 4 * k + 3)))), .inl (0, .inl (rv_tab 10 (fun k => s (86 + k))))]
def mC (S F : Nat → Nat → Int32) (rb : Nat) : rv_W := .inr (3, [.ref 1, .ref 9, .ref 17, .ref 25, .ref 34, .ref 35, .ref 37, .int (F 0 7), .int (F 0 8)]) :: (spC 1 (S 0) ++ (spC 9 (S 1) ++ (spC 17 (S 2) ++ [.inl (2, .inr [some 26, some 28, some 30, some 32]), .inr (0, [.ref 27, .int (F 26 1), .int (F 26 2)]), .inl (0, .inl (rv_tab 40 (F 27))), .inr (0, [.ref 29, .int (F 28 1), .int (F 28 2)]), .inl (0, .inl (rv_tab 40 (F 29))), .inr (0, [.ref 31, .int (F 30 1), .int (F 30 2)]), .inl (0, .inl (rv_tab 40 (F 31))), .inr (0, [.ref 33, .int (F 32 1), .int (F 32 2)]), .inl (0, .inl (rv_tab 40 (F 33))), .inl (1, .inl (rv_tab 120 (F 34))), .inr (2, [.ref rb, .int (F 35 1), .int (F 35 2), .int (F 35 3), .int (F 35 4), .int (F 35 5)]), .inl (1, .inl []), .inl (0, .inl (rv_tab 7 (F 37)))])))
def sp (j : Nat) : Nat := 1 + 8 * j
def sa (j k : Nat) : Nat := 1 + 8 * j + k
def sh (i : Nat) : Nat := 26 + 2 * i
def sn (i : Nat) : Nat := 27 + 2 * i
theorem lt3 {P : Nat → Prop} (h0 : P 0) (h1 : P 1) (h2 : P 2) {j : Nat} (hj : j < 3) : P j := by
  rcases (show j = 0 ∨ j = 1 ∨ j = 2 by omega) with rfl | rfl | rfl
  · exact h0
  · exact h1
  · exact h2
theorem lt4 {P : Nat → Prop} (h0 : P 0) (h1 : P 1) (h2 : P 2) (h3 : P 3) {j : Nat} (hj : j < 4) : P j := by
  rcases (show j = 0 ∨ j = 1 ∨ j = 2 ∨ j = 3 by omega) with rfl | rfl | rfl | rfl
  · exact h0
  · exact h1
  · exact h2
  · exact h3
theorem lfS1 (S F : Nat → Nat → Int32) (rb : Nat) {j : Nat} (hj : j < 3) : rv_ldFR (mC S F rb) (sp j) 1 0 = some (sa j 1) := lt3 (P := fun j => rv_ldFR (mC S F rb) (sp j) 1 0 = some (sa j 1)) rfl rfl rfl hj
theorem ldS1 (S F : Nat → Nat → Int32) (rb : Nat) {j : Nat} (hj : j < 3) {k : Nat} (h : k < 10) : rv_ldI (mC S F rb) (sa j 1) (nI k) = some (S j (4 + k)) := lt3 (P := fun j => rv_ldI (mC S F rb) (sa j 1) (nI k) = some (S j (4 + k))) (rv_ldI_tab (f := fun k => S 0 (4 + k)) (by decide) rfl (by decide) h) (rv_ldI_tab (f := fun k => S 1 (4 + k)) (by decide) rfl (by decide) h) (rv_ldI_tab (f := fun k => S 2 (4 + k)) (by decide) rfl (by decide) h) hj
theorem spC_u1 (b : Nat) (s : Nat → Int32) {k0 : Nat} (h : k0 < 10) (x : Int32) : spC b (upd s (4 + k0) x) = [.inr (1, [.ref (b + 1), .ref (b + 2), .ref (b + 3), .ref (b + 4), .ref (b + 5), .ref (b + 6), .ref (b + 7), .int (s 0), .int (s 2), .int (s 1), .int (s 3), .int (s 96)]), .inl (0, .inl (rv_tab 10 (upd (fun k => s (4 + k)) k0 x))), .inl (0, .inl (rv_tab 40 (fun k => s (14 + k)))), .inl (0, .inl (rv_tab 8 (fun k => s (54 + 4 * k + 0)))), .inl (0, .inl (rv_tab 8 (fun k => s (54 + 4 * k + 1)))), .inl (0, .inl (rv_tab 8 (fun k => s (54 + 4 * k + 2)))), .inl (0, .inl (rv_tab 8 (fun k => s (54 + 4 * k + 3)))), .inl (0, .inl (rv_tab 10 (fun k => s (86 + k))))] := by
  have f0 : upd s (4 + k0) x 0 = s 0 := by simp only [upd]; grind
  have f2 : upd s (4 + k0) x 2 = s 2 := by simp only [upd]; grind
  have f1 : upd s (4 + k0) x 1 = s 1 := by simp only [upd]; grind
  have f3 : upd s (4 + k0) x 3 = s 3 := by simp only [upd]; grind
  have f96 : upd s (4 + k0) x 96 = s 96 := by simp only [upd]; grind
  have a1 : rv_tab 10 (fun k => upd s (4 + k0) x (4 + k)) = rv_tab 10 (upd (fun k => s (4 + k)) k0 x) := rv_tab_congr (fun k hk => by simp only [upd]; grind)
  have a2 : rv_tab 40 (fun k => upd s (4 + k0) x (14 + k)) = rv_tab 40 (fun k => s (14 + k)) := rv_tab_congr (fun k hk => by simp only [upd]; grind)
  have a3 : rv_tab 8 (fun k => upd s (4 + k0) x (54 + 4 * k + 0)) = rv_tab 8 (fun k => s (54 + 4 * k + 0)) := rv_tab_congr (fun k hk => by simp only [upd]; grind)
  have a4 : rv_tab 8 (fun k => upd s (4 + k0) x (54 + 4 * k + 1)) = rv_tab 8 (fun k => s (54 + 4 * k + 1)) := rv_tab_congr (fun k hk => by simp only [upd]; grind)
  have a5 : rv_tab 8 (fun k => upd s (4 + k0) x (54 + 4 * k + 2)) = rv_tab 8 (fun k => s (54 + 4 * k + 2)) := rv_tab_congr (fun k hk => by simp only [upd]; grind)
  have a6 : rv_tab 8 (fun k => upd s (4 + k0) x (54 + 4 * k + 3)) = rv_tab 8 (fun k => s (54 + 4 * k + 3)) := rv_tab_congr (fun k hk => by simp only [upd]; grind)
  have a7 : rv_tab 10 (fun k => upd s (4 + k0) x (86 + k)) = rv_tab 10 (fun k => s (86 + k)) := rv_tab_congr (fun k hk => by simp only [upd]; grind)
  unfold spC
  rw [f0, f2, f1, f3, f96, a1, a2, a3, a4, a5, a6, a7]
theorem stS1 (S F : Nat → Nat → Int32) (rb : Nat) {j : Nat} (hj : j < 3) {k : Nat} (h : k < 10) (x : Int32) : rv_stI (mC S F rb) (sa j 1) (nI k) x = some (mC (upB S j (4 + k) x) F rb) := by
  refine lt3 (P := fun j => rv_stI (mC S F rb) (sa j 1) (nI k) x = some (mC (upB S j (4 + k) x) F rb)) ?_ ?_ ?_ hj
  · refine (rv_stI_tab (n := 10) (f := fun k => S 0 (4 + k)) rfl (by decide) h x).trans (congrArg some ?_)
    show _ = _ :: (spC 1 (upd (S 0) (4 + k) x) ++ (spC 9 (S 1) ++ (spC 17 (S 2) ++ _)))
    rw [spC_u1 1 (S 0) h x]
    rfl
  · refine (rv_stI_tab (n := 10) (f := fun k => S 1 (4 + k)) rfl (by decide) h x).trans (congrArg some ?_)
    show _ = _ :: (spC 1 (S 0) ++ (spC 9 (upd (S 1) (4 + k) x) ++ (spC 17 (S 2) ++ _)))
    rw [spC_u1 9 (S 1) h x]
    rfl
  · refine (rv_stI_tab (n := 10) (f := fun k => S 2 (4 + k)) rfl (by decide) h x).trans (congrArg some ?_)
    show _ = _ :: (spC 1 (S 0) ++ (spC 9 (S 1) ++ (spC 17 (upd (S 2) (4 + k) x) ++ _)))
    rw [spC_u1 17 (S 2) h x]
    rfl
theorem lfS2 (S F : Nat → Nat → Int32) (rb : Nat) {j : Nat} (hj : j < 3) : rv_ldFR (mC S F rb) (sp j) 1 1 = some (sa j 2) := lt3 (P := fun j => rv_ldFR (mC S F rb) (sp j) 1 1 = some (sa j 2)) rfl rfl rfl hj
theorem ldS2 (S F : Nat → Nat → Int32) (rb : Nat) {j : Nat} (hj : j < 3) {k : Nat} (h : k < 40) : rv_ldI (mC S F rb) (sa j 2) (nI k) = some (S j (14 + k)) := lt3 (P := fun j => rv_ldI (mC S F rb) (sa j 2) (nI k) = some (S j (14 + k))) (rv_ldI_tab (f := fun k => S 0 (14 + k)) (by decide) rfl (by decide) h) (rv_ldI_tab (f := fun k => S 1 (14 + k)) (by decide) rfl (by decide) h) (rv_ldI_tab (f := fun k => S 2 (14 + k)) (by decide) rfl (by decide) h) hj
theorem spC_u2 (b : Nat) (s : Nat → Int32) {k0 : Nat} (h : k0 < 40) (x : Int32) : spC b (upd s (14 + k0) x) = [.inr (1, [.ref (b + 1), .ref (b + 2), .ref (b + 3), .ref (b + 4), .ref (b + 5), .ref (b + 6), .ref (b + 7), .int (s 0), .int (s 2), .int (s 1), .int (s 3), .int (s 96)]), .inl (0, .inl (rv_tab 10 (fun k => s (4 + k)))), .inl (0, .inl (rv_tab 40 (upd (fun k => s (14 + k)) k0 x))), .inl (0, .inl (rv_tab 8 (fun k => s (54 + 4 * k + 0)))), .inl (0, .inl (rv_tab 8 (fun k => s (54 + 4 * k + 1)))), .inl (0, .inl (rv_tab 8 (fun k => s (54 + 4 * k + 2)))), .inl (0, .inl (rv_tab 8 (fun k => s (54 + 4 * k + 3)))), .inl (0, .inl (rv_tab 10 (fun k => s (86 + k))))] := by
  have f0 : upd s (14 + k0) x 0 = s 0 := by simp only [upd]; grind
  have f2 : upd s (14 + k0) x 2 = s 2 := by simp only [upd]; grind
  have f1 : upd s (14 + k0) x 1 = s 1 := by simp only [upd]; grind
  have f3 : upd s (14 + k0) x 3 = s 3 := by simp only [upd]; grind
  have f96 : upd s (14 + k0) x 96 = s 96 := by simp only [upd]; grind
  have a1 : rv_tab 10 (fun k => upd s (14 + k0) x (4 + k)) = rv_tab 10 (fun k => s (4 + k)) := rv_tab_congr (fun k hk => by simp only [upd]; grind)
  have a2 : rv_tab 40 (fun k => upd s (14 + k0) x (14 + k)) = rv_tab 40 (upd (fun k => s (14 + k)) k0 x) := rv_tab_congr (fun k hk => by simp only [upd]; grind)
  have a3 : rv_tab 8 (fun k => upd s (14 + k0) x (54 + 4 * k + 0)) = rv_tab 8 (fun k => s (54 + 4 * k + 0)) := rv_tab_congr (fun k hk => by simp only [upd]; grind)
  have a4 : rv_tab 8 (fun k => upd s (14 + k0) x (54 + 4 * k + 1)) = rv_tab 8 (fun k => s (54 + 4 * k + 1)) := rv_tab_congr (fun k hk => by simp only [upd]; grind)
  have a5 : rv_tab 8 (fun k => upd s (14 + k0) x (54 + 4 * k + 2)) = rv_tab 8 (fun k => s (54 + 4 * k + 2)) := rv_tab_congr (fun k hk => by simp only [upd]; grind)
  have a6 : rv_tab 8 (fun k => upd s (14 + k0) x (54 + 4 * k + 3)) = rv_tab 8 (fun k => s (54 + 4 * k + 3)) := rv_tab_congr (fun k hk => by simp only [upd]; grind)
  have a7 : rv_tab 10 (fun k => upd s (14 + k0) x (86 + k)) = rv_tab 10 (fun k => s (86 + k)) := rv_tab_congr (fun k hk => by simp only [upd]; grind)
  unfold spC
  rw [f0, f2, f1, f3, f96, a1, a2, a3, a4, a5, a6, a7]
theorem stS2 (S F : Nat → Nat → Int32) (rb : Nat) {j : Nat} (hj : j < 3) {k : Nat} (h : k < 40) (x : Int32) : rv_stI (mC S F rb) (sa j 2) (nI k) x = some (mC (upB S j (14 + k) x) F rb) := by
  refine lt3 (P := fun j => rv_stI (mC S F rb) (sa j 2) (nI k) x = some (mC (upB S j (14 + k) x) F rb)) ?_ ?_ ?_ hj
  · refine (rv_stI_tab (n := 40) (f := fun k => S 0 (14 + k)) rfl (by decide) h x).trans (congrArg some ?_)
    show _ = _ :: (spC 1 (upd (S 0) (14 + k) x) ++ (spC 9 (S 1) ++ (spC 17 (S 2) ++ _)))
    rw [spC_u2 1 (S 0) h x]
    rfl
  · refine (rv_stI_tab (n := 40) (f := fun k => S 1 (14 + k)) rfl (by decide) h x).trans (congrArg some ?_)
    show _ = _ :: (spC 1 (S 0) ++ (spC 9 (upd (S 1) (14 + k) x) ++ (spC 17 (S 2) ++ _)))
    rw [spC_u2 9 (S 1) h x]
    rfl
  · refine (rv_stI_tab (n := 40) (f := fun k => S 2 (14 + k)) rfl (by decide) h x).trans (congrArg some ?_)
    show _ = _ :: (spC 1 (S 0) ++ (spC 9 (S 1) ++ (spC 17 (upd (S 2) (14 + k) x) ++ _)))
    rw [spC_u2 17 (S 2) h x]
    rfl
theorem lfS3 (S F : Nat → Nat → Int32) (rb : Nat) {j : Nat} (hj : j < 3) : rv_ldFR (mC S F rb) (sp j) 1 2 = some (sa j 3) := lt3 (P := fun j => rv_ldFR (mC S F rb) (sp j) 1 2 = some (sa j 3)) rfl rfl rfl hj
theorem ldS3 (S F : Nat → Nat → Int32) (rb : Nat) {j : Nat} (hj : j < 3) {k : Nat} (h : k < 8) : rv_ldI (mC S F rb) (sa j 3) (nI k) = some (S j (54 + 4 * k + 0)) := lt3 (P := fun j => rv_ldI (mC S F rb) (sa j 3) (nI k) = some (S j (54 + 4 * k + 0))) (rv_ldI_tab (f := fun k => S 0 (54 + 4 * k + 0)) (by decide) rfl (by decide) h) (rv_ldI_tab (f := fun k => S 1 (54 + 4 * k + 0)) (by decide) rfl (by decide) h) (rv_ldI_tab (f := fun k => S 2 (54 + 4 * k + 0)) (by decide) rfl (by decide) h) hj
theorem spC_u3 (b : Nat) (s : Nat → Int32) {k0 : Nat} (h : k0 < 8) (x : Int32) : spC b (upd s (54 + 4 * k0 + 0) x) = [.inr (1, [.ref (b + 1), .ref (b + 2), .ref (b + 3), .ref (b + 4), .ref (b + 5), .ref (b + 6), .ref (b + 7), .int (s 0), .int (s 2), .int (s 1), .int (s 3), .int (s 96)]), .inl (0, .inl (rv_tab 10 (fun k => s (4 + k)))), .inl (0, .inl (rv_tab 40 (fun k => s (14 + k)))), .inl (0, .inl (rv_tab 8 (upd (fun k => s (54 + 4 * k + 0)) k0 x))), .inl (0, .inl (rv_tab 8 (fun k => s (54 + 4 * k + 1)))), .inl (0, .inl (rv_tab 8 (fun k => s (54 + 4 * k + 2)))), .inl (0, .inl (rv_tab 8 (fun k => s (54 + 4 * k + 3)))), .inl (0, .inl (rv_tab 10 (fun k => s (86 + k))))] := by
  have f0 : upd s (54 + 4 * k0 + 0) x 0 = s 0 := by simp only [upd]; grind
  have f2 : upd s (54 + 4 * k0 + 0) x 2 = s 2 := by simp only [upd]; grind
  have f1 : upd s (54 + 4 * k0 + 0) x 1 = s 1 := by simp only [upd]; grind
  have f3 : upd s (54 + 4 * k0 + 0) x 3 = s 3 := by simp only [upd]; grind
  have f96 : upd s (54 + 4 * k0 + 0) x 96 = s 96 := by simp only [upd]; grind
  have a1 : rv_tab 10 (fun k => upd s (54 + 4 * k0 + 0) x (4 + k)) = rv_tab 10 (fun k => s (4 + k)) := rv_tab_congr (fun k hk => by simp only [upd]; grind)
  have a2 : rv_tab 40 (fun k => upd s (54 + 4 * k0 + 0) x (14 + k)) = rv_tab 40 (fun k => s (14 + k)) := rv_tab_congr (fun k hk => by simp only [upd]; grind)
  have a3 : rv_tab 8 (fun k => upd s (54 + 4 * k0 + 0) x (54 + 4 * k + 0)) = rv_tab 8 (upd (fun k => s (54 + 4 * k + 0)) k0 x) := rv_tab_congr (fun k hk => by simp only [upd]; grind)
  have a4 : rv_tab 8 (fun k => upd s (54 + 4 * k0 + 0) x (54 + 4 * k + 1)) = rv_tab 8 (fun k => s (54 + 4 * k + 1)) := rv_tab_congr (fun k hk => by simp only [upd]; grind)
  have a5 : rv_tab 8 (fun k => upd s (54 + 4 * k0 + 0) x (54 + 4 * k + 2)) = rv_tab 8 (fun k => s (54 + 4 * k + 2)) := rv_tab_congr (fun k hk => by simp only [upd]; grind)
  have a6 : rv_tab 8 (fun k => upd s (54 + 4 * k0 + 0) x (54 + 4 * k + 3)) = rv_tab 8 (fun k => s (54 + 4 * k + 3)) := rv_tab_congr (fun k hk => by simp only [upd]; grind)
  have a7 : rv_tab 10 (fun k => upd s (54 + 4 * k0 + 0) x (86 + k)) = rv_tab 10 (fun k => s (86 + k)) := rv_tab_congr (fun k hk => by simp only [upd]; grind)
  unfold spC
  rw [f0, f2, f1, f3, f96, a1, a2, a3, a4, a5, a6, a7]
theorem stS3 (S F : Nat → Nat → Int32) (rb : Nat) {j : Nat} (hj : j < 3) {k : Nat} (h : k < 8) (x : Int32) : rv_stI (mC S F rb) (sa j 3) (nI k) x = some (mC (upB S j (54 + 4 * k + 0) x) F rb) := by
  refine lt3 (P := fun j => rv_stI (mC S F rb) (sa j 3) (nI k) x = some (mC (upB S j (54 + 4 * k + 0) x) F rb)) ?_ ?_ ?_ hj
  · refine (rv_stI_tab (n := 8) (f := fun k => S 0 (54 + 4 * k + 0)) rfl (by decide) h x).trans (congrArg some ?_)
    show _ = _ :: (spC 1 (upd (S 0) (54 + 4 * k + 0) x) ++ (spC 9 (S 1) ++ (spC 17 (S 2) ++ _)))
    rw [spC_u3 1 (S 0) h x]
    rfl
  · refine (rv_stI_tab (n := 8) (f := fun k => S 1 (54 + 4 * k + 0)) rfl (by decide) h x).trans (congrArg some ?_)
    show _ = _ :: (spC 1 (S 0) ++ (spC 9 (upd (S 1) (54 + 4 * k + 0) x) ++ (spC 17 (S 2) ++ _)))
    rw [spC_u3 9 (S 1) h x]
    rfl
  · refine (rv_stI_tab (n := 8) (f := fun k => S 2 (54 + 4 * k + 0)) rfl (by decide) h x).trans (congrArg some ?_)
    show _ = _ :: (spC 1 (S 0) ++ (spC 9 (S 1) ++ (spC 17 (upd (S 2) (54 + 4 * k + 0) x) ++ _)))
    rw [spC_u3 17 (S 2) h x]
    rfl
theorem lfS4 (S F : Nat → Nat → Int32) (rb : Nat) {j : Nat} (hj : j < 3) : rv_ldFR (mC S F rb) (sp j) 1 3 = some (sa j 4) := lt3 (P := fun j => rv_ldFR (mC S F rb) (sp j) 1 3 = some (sa j 4)) rfl rfl rfl hj
theorem ldS4 (S F : Nat → Nat → Int32) (rb : Nat) {j : Nat} (hj : j < 3) {k : Nat} (h : k < 8) : rv_ldI (mC S F rb) (sa j 4) (nI k) = some (S j (54 + 4 * k + 1)) := lt3 (P := fun j => rv_ldI (mC S F rb) (sa j 4) (nI k) = some (S j (54 + 4 * k + 1))) (rv_ldI_tab (f := fun k => S 0 (54 + 4 * k + 1)) (by decide) rfl (by decide) h) (rv_ldI_tab (f := fun k => S 1 (54 + 4 * k + 1)) (by decide) rfl (by decide) h) (rv_ldI_tab (f := fun k => S 2 (54 + 4 * k + 1)) (by decide) rfl (by decide) h) hj
theorem spC_u4 (b : Nat) (s : Nat → Int32) {k0 : Nat} (h : k0 < 8) (x : Int32) : spC b (upd s (54 + 4 * k0 + 1) x) = [.inr (1, [.ref (b + 1), .ref (b + 2), .ref (b + 3), .ref (b + 4), .ref (b + 5), .ref (b + 6), .ref (b + 7), .int (s 0), .int (s 2), .int (s 1), .int (s 3), .int (s 96)]), .inl (0, .inl (rv_tab 10 (fun k => s (4 + k)))), .inl (0, .inl (rv_tab 40 (fun k => s (14 + k)))), .inl (0, .inl (rv_tab 8 (fun k => s (54 + 4 * k + 0)))), .inl (0, .inl (rv_tab 8 (upd (fun k => s (54 + 4 * k + 1)) k0 x))), .inl (0, .inl (rv_tab 8 (fun k => s (54 + 4 * k + 2)))), .inl (0, .inl (rv_tab 8 (fun k => s (54 + 4 * k + 3)))), .inl (0, .inl (rv_tab 10 (fun k => s (86 + k))))] := by
  have f0 : upd s (54 + 4 * k0 + 1) x 0 = s 0 := by simp only [upd]; grind
  have f2 : upd s (54 + 4 * k0 + 1) x 2 = s 2 := by simp only [upd]; grind
  have f1 : upd s (54 + 4 * k0 + 1) x 1 = s 1 := by simp only [upd]; grind
  have f3 : upd s (54 + 4 * k0 + 1) x 3 = s 3 := by simp only [upd]; grind
  have f96 : upd s (54 + 4 * k0 + 1) x 96 = s 96 := by simp only [upd]; grind
  have a1 : rv_tab 10 (fun k => upd s (54 + 4 * k0 + 1) x (4 + k)) = rv_tab 10 (fun k => s (4 + k)) := rv_tab_congr (fun k hk => by simp only [upd]; grind)
  have a2 : rv_tab 40 (fun k => upd s (54 + 4 * k0 + 1) x (14 + k)) = rv_tab 40 (fun k => s (14 + k)) := rv_tab_congr (fun k hk => by simp only [upd]; grind)
  have a3 : rv_tab 8 (fun k => upd s (54 + 4 * k0 + 1) x (54 + 4 * k + 0)) = rv_tab 8 (fun k => s (54 + 4 * k + 0)) := rv_tab_congr (fun k hk => by simp only [upd]; grind)
  have a4 : rv_tab 8 (fun k => upd s (54 + 4 * k0 + 1) x (54 + 4 * k + 1)) = rv_tab 8 (upd (fun k => s (54 + 4 * k + 1)) k0 x) := rv_tab_congr (fun k hk => by simp only [upd]; grind)
  have a5 : rv_tab 8 (fun k => upd s (54 + 4 * k0 + 1) x (54 + 4 * k + 2)) = rv_tab 8 (fun k => s (54 + 4 * k + 2)) := rv_tab_congr (fun k hk => by simp only [upd]; grind)
  have a6 : rv_tab 8 (fun k => upd s (54 + 4 * k0 + 1) x (54 + 4 * k + 3)) = rv_tab 8 (fun k => s (54 + 4 * k + 3)) := rv_tab_congr (fun k hk => by simp only [upd]; grind)
  have a7 : rv_tab 10 (fun k => upd s (54 + 4 * k0 + 1) x (86 + k)) = rv_tab 10 (fun k => s (86 + k)) := rv_tab_congr (fun k hk => by simp only [upd]; grind)
  unfold spC
  rw [f0, f2, f1, f3, f96, a1, a2, a3, a4, a5, a6, a7]
theorem stS4 (S F : Nat → Nat → Int32) (rb : Nat) {j : Nat} (hj : j < 3) {k : Nat} (h : k < 8) (x : Int32) : rv_stI (mC S F rb) (sa j 4) (nI k) x = some (mC (upB S j (54 + 4 * k + 1) x) F rb) := by
  refine lt3 (P := fun j => rv_stI (mC S F rb) (sa j 4) (nI k) x = some (mC (upB S j (54 + 4 * k + 1) x) F rb)) ?_ ?_ ?_ hj
  · refine (rv_stI_tab (n := 8) (f := fun k => S 0 (54 + 4 * k + 1)) rfl (by decide) h x).trans (congrArg some ?_)
    show _ = _ :: (spC 1 (upd (S 0) (54 + 4 * k + 1) x) ++ (spC 9 (S 1) ++ (spC 17 (S 2) ++ _)))
    rw [spC_u4 1 (S 0) h x]
    rfl
  · refine (rv_stI_tab (n := 8) (f := fun k => S 1 (54 + 4 * k + 1)) rfl (by decide) h x).trans (congrArg some ?_)
    show _ = _ :: (spC 1 (S 0) ++ (spC 9 (upd (S 1) (54 + 4 * k + 1) x) ++ (spC 17 (S 2) ++ _)))
    rw [spC_u4 9 (S 1) h x]
    rfl
  · refine (rv_stI_tab (n := 8) (f := fun k => S 2 (54 + 4 * k + 1)) rfl (by decide) h x).trans (congrArg some ?_)
    show _ = _ :: (spC 1 (S 0) ++ (spC 9 (S 1) ++ (spC 17 (upd (S 2) (54 + 4 * k + 1) x) ++ _)))
    rw [spC_u4 17 (S 2) h x]
    rfl
theorem lfS5 (S F : Nat → Nat → Int32) (rb : Nat) {j : Nat} (hj : j < 3) : rv_ldFR (mC S F rb) (sp j) 1 4 = some (sa j 5) := lt3 (P := fun j => rv_ldFR (mC S F rb) (sp j) 1 4 = some (sa j 5)) rfl rfl rfl hj
theorem ldS5 (S F : Nat → Nat → Int32) (rb : Nat) {j : Nat} (hj : j < 3) {k : Nat} (h : k < 8) : rv_ldI (mC S F rb) (sa j 5) (nI k) = some (S j (54 + 4 * k + 2)) := lt3 (P := fun j => rv_ldI (mC S F rb) (sa j 5) (nI k) = some (S j (54 + 4 * k + 2))) (rv_ldI_tab (f := fun k => S 0 (54 + 4 * k + 2)) (by decide) rfl (by decide) h) (rv_ldI_tab (f := fun k => S 1 (54 + 4 * k + 2)) (by decide) rfl (by decide) h) (rv_ldI_tab (f := fun k => S 2 (54 + 4 * k + 2)) (by decide) rfl (by decide) h) hj
theorem spC_u5 (b : Nat) (s : Nat → Int32) {k0 : Nat} (h : k0 < 8) (x : Int32) : spC b (upd s (54 + 4 * k0 + 2) x) = [.inr (1, [.ref (b + 1), .ref (b + 2), .ref (b + 3), .ref (b + 4), .ref (b + 5), .ref (b + 6), .ref (b + 7), .int (s 0), .int (s 2), .int (s 1), .int (s 3), .int (s 96)]), .inl (0, .inl (rv_tab 10 (fun k => s (4 + k)))), .inl (0, .inl (rv_tab 40 (fun k => s (14 + k)))), .inl (0, .inl (rv_tab 8 (fun k => s (54 + 4 * k + 0)))), .inl (0, .inl (rv_tab 8 (fun k => s (54 + 4 * k + 1)))), .inl (0, .inl (rv_tab 8 (upd (fun k => s (54 + 4 * k + 2)) k0 x))), .inl (0, .inl (rv_tab 8 (fun k => s (54 + 4 * k + 3)))), .inl (0, .inl (rv_tab 10 (fun k => s (86 + k))))] := by
  have f0 : upd s (54 + 4 * k0 + 2) x 0 = s 0 := by simp only [upd]; grind
  have f2 : upd s (54 + 4 * k0 + 2) x 2 = s 2 := by simp only [upd]; grind
  have f1 : upd s (54 + 4 * k0 + 2) x 1 = s 1 := by simp only [upd]; grind
  have f3 : upd s (54 + 4 * k0 + 2) x 3 = s 3 := by simp only [upd]; grind
  have f96 : upd s (54 + 4 * k0 + 2) x 96 = s 96 := by simp only [upd]; grind
  have a1 : rv_tab 10 (fun k => upd s (54 + 4 * k0 + 2) x (4 + k)) = rv_tab 10 (fun k => s (4 + k)) := rv_tab_congr (fun k hk => by simp only [upd]; grind)
  have a2 : rv_tab 40 (fun k => upd s (54 + 4 * k0 + 2) x (14 + k)) = rv_tab 40 (fun k => s (14 + k)) := rv_tab_congr (fun k hk => by simp only [upd]; grind)
  have a3 : rv_tab 8 (fun k => upd s (54 + 4 * k0 + 2) x (54 + 4 * k + 0)) = rv_tab 8 (fun k => s (54 + 4 * k + 0)) := rv_tab_congr (fun k hk => by simp only [upd]; grind)
  have a4 : rv_tab 8 (fun k => upd s (54 + 4 * k0 + 2) x (54 + 4 * k + 1)) = rv_tab 8 (fun k => s (54 + 4 * k + 1)) := rv_tab_congr (fun k hk => by simp only [upd]; grind)
  have a5 : rv_tab 8 (fun k => upd s (54 + 4 * k0 + 2) x (54 + 4 * k + 2)) = rv_tab 8 (upd (fun k => s (54 + 4 * k + 2)) k0 x) := rv_tab_congr (fun k hk => by simp only [upd]; grind)
  have a6 : rv_tab 8 (fun k => upd s (54 + 4 * k0 + 2) x (54 + 4 * k + 3)) = rv_tab 8 (fun k => s (54 + 4 * k + 3)) := rv_tab_congr (fun k hk => by simp only [upd]; grind)
  have a7 : rv_tab 10 (fun k => upd s (54 + 4 * k0 + 2) x (86 + k)) = rv_tab 10 (fun k => s (86 + k)) := rv_tab_congr (fun k hk => by simp only [upd]; grind)
  unfold spC
  rw [f0, f2, f1, f3, f96, a1, a2, a3, a4, a5, a6, a7]
theorem stS5 (S F : Nat → Nat → Int32) (rb : Nat) {j : Nat} (hj : j < 3) {k : Nat} (h : k < 8) (x : Int32) : rv_stI (mC S F rb) (sa j 5) (nI k) x = some (mC (upB S j (54 + 4 * k + 2) x) F rb) := by
  refine lt3 (P := fun j => rv_stI (mC S F rb) (sa j 5) (nI k) x = some (mC (upB S j (54 + 4 * k + 2) x) F rb)) ?_ ?_ ?_ hj
  · refine (rv_stI_tab (n := 8) (f := fun k => S 0 (54 + 4 * k + 2)) rfl (by decide) h x).trans (congrArg some ?_)
    show _ = _ :: (spC 1 (upd (S 0) (54 + 4 * k + 2) x) ++ (spC 9 (S 1) ++ (spC 17 (S 2) ++ _)))
    rw [spC_u5 1 (S 0) h x]
    rfl
  · refine (rv_stI_tab (n := 8) (f := fun k => S 1 (54 + 4 * k + 2)) rfl (by decide) h x).trans (congrArg some ?_)
    show _ = _ :: (spC 1 (S 0) ++ (spC 9 (upd (S 1) (54 + 4 * k + 2) x) ++ (spC 17 (S 2) ++ _)))
    rw [spC_u5 9 (S 1) h x]
    rfl
  · refine (rv_stI_tab (n := 8) (f := fun k => S 2 (54 + 4 * k + 2)) rfl (by decide) h x).trans (congrArg some ?_)
    show _ = _ :: (spC 1 (S 0) ++ (spC 9 (S 1) ++ (spC 17 (upd (S 2) (54 + 4 * k + 2) x) ++ _)))
    rw [spC_u5 17 (S 2) h x]
    rfl
theorem lfS6 (S F : Nat → Nat → Int32) (rb : Nat) {j : Nat} (hj : j < 3) : rv_ldFR (mC S F rb) (sp j) 1 5 = some (sa j 6) := lt3 (P := fun j => rv_ldFR (mC S F rb) (sp j) 1 5 = some (sa j 6)) rfl rfl rfl hj
theorem ldS6 (S F : Nat → Nat → Int32) (rb : Nat) {j : Nat} (hj : j < 3) {k : Nat} (h : k < 8) : rv_ldI (mC S F rb) (sa j 6) (nI k) = some (S j (54 + 4 * k + 3)) := lt3 (P := fun j => rv_ldI (mC S F rb) (sa j 6) (nI k) = some (S j (54 + 4 * k + 3))) (rv_ldI_tab (f := fun k => S 0 (54 + 4 * k + 3)) (by decide) rfl (by decide) h) (rv_ldI_tab (f := fun k => S 1 (54 + 4 * k + 3)) (by decide) rfl (by decide) h) (rv_ldI_tab (f := fun k => S 2 (54 + 4 * k + 3)) (by decide) rfl (by decide) h) hj
theorem spC_u6 (b : Nat) (s : Nat → Int32) {k0 : Nat} (h : k0 < 8) (x : Int32) : spC b (upd s (54 + 4 * k0 + 3) x) = [.inr (1, [.ref (b + 1), .ref (b + 2), .ref (b + 3), .ref (b + 4), .ref (b + 5), .ref (b + 6), .ref (b + 7), .int (s 0), .int (s 2), .int (s 1), .int (s 3), .int (s 96)]), .inl (0, .inl (rv_tab 10 (fun k => s (4 + k)))), .inl (0, .inl (rv_tab 40 (fun k => s (14 + k)))), .inl (0, .inl (rv_tab 8 (fun k => s (54 + 4 * k + 0)))), .inl (0, .inl (rv_tab 8 (fun k => s (54 + 4 * k + 1)))), .inl (0, .inl (rv_tab 8 (fun k => s (54 + 4 * k + 2)))), .inl (0, .inl (rv_tab 8 (upd (fun k => s (54 + 4 * k + 3)) k0 x))), .inl (0, .inl (rv_tab 10 (fun k => s (86 + k))))] := by
  have f0 : upd s (54 + 4 * k0 + 3) x 0 = s 0 := by simp only [upd]; grind
  have f2 : upd s (54 + 4 * k0 + 3) x 2 = s 2 := by simp only [upd]; grind
  have f1 : upd s (54 + 4 * k0 + 3) x 1 = s 1 := by simp only [upd]; grind
  have f3 : upd s (54 + 4 * k0 + 3) x 3 = s 3 := by simp only [upd]; grind
  have f96 : upd s (54 + 4 * k0 + 3) x 96 = s 96 := by simp only [upd]; grind
  have a1 : rv_tab 10 (fun k => upd s (54 + 4 * k0 + 3) x (4 + k)) = rv_tab 10 (fun k => s (4 + k)) := rv_tab_congr (fun k hk => by simp only [upd]; grind)
  have a2 : rv_tab 40 (fun k => upd s (54 + 4 * k0 + 3) x (14 + k)) = rv_tab 40 (fun k => s (14 + k)) := rv_tab_congr (fun k hk => by simp only [upd]; grind)
  have a3 : rv_tab 8 (fun k => upd s (54 + 4 * k0 + 3) x (54 + 4 * k + 0)) = rv_tab 8 (fun k => s (54 + 4 * k + 0)) := rv_tab_congr (fun k hk => by simp only [upd]; grind)
  have a4 : rv_tab 8 (fun k => upd s (54 + 4 * k0 + 3) x (54 + 4 * k + 1)) = rv_tab 8 (fun k => s (54 + 4 * k + 1)) := rv_tab_congr (fun k hk => by simp only [upd]; grind)
  have a5 : rv_tab 8 (fun k => upd s (54 + 4 * k0 + 3) x (54 + 4 * k + 2)) = rv_tab 8 (fun k => s (54 + 4 * k + 2)) := rv_tab_congr (fun k hk => by simp only [upd]; grind)
  have a6 : rv_tab 8 (fun k => upd s (54 + 4 * k0 + 3) x (54 + 4 * k + 3)) = rv_tab 8 (upd (fun k => s (54 + 4 * k + 3)) k0 x) := rv_tab_congr (fun k hk => by simp only [upd]; grind)
  have a7 : rv_tab 10 (fun k => upd s (54 + 4 * k0 + 3) x (86 + k)) = rv_tab 10 (fun k => s (86 + k)) := rv_tab_congr (fun k hk => by simp only [upd]; grind)
  unfold spC
  rw [f0, f2, f1, f3, f96, a1, a2, a3, a4, a5, a6, a7]
theorem stS6 (S F : Nat → Nat → Int32) (rb : Nat) {j : Nat} (hj : j < 3) {k : Nat} (h : k < 8) (x : Int32) : rv_stI (mC S F rb) (sa j 6) (nI k) x = some (mC (upB S j (54 + 4 * k + 3) x) F rb) := by
  refine lt3 (P := fun j => rv_stI (mC S F rb) (sa j 6) (nI k) x = some (mC (upB S j (54 + 4 * k + 3) x) F rb)) ?_ ?_ ?_ hj
  · refine (rv_stI_tab (n := 8) (f := fun k => S 0 (54 + 4 * k + 3)) rfl (by decide) h x).trans (congrArg some ?_)
    show _ = _ :: (spC 1 (upd (S 0) (54 + 4 * k + 3) x) ++ (spC 9 (S 1) ++ (spC 17 (S 2) ++ _)))
    rw [spC_u6 1 (S 0) h x]
    rfl
  · refine (rv_stI_tab (n := 8) (f := fun k => S 1 (54 + 4 * k + 3)) rfl (by decide) h x).trans (congrArg some ?_)
    show _ = _ :: (spC 1 (S 0) ++ (spC 9 (upd (S 1) (54 + 4 * k + 3) x) ++ (spC 17 (S 2) ++ _)))
    rw [spC_u6 9 (S 1) h x]
    rfl
  · refine (rv_stI_tab (n := 8) (f := fun k => S 2 (54 + 4 * k + 3)) rfl (by decide) h x).trans (congrArg some ?_)
    show _ = _ :: (spC 1 (S 0) ++ (spC 9 (S 1) ++ (spC 17 (upd (S 2) (54 + 4 * k + 3) x) ++ _)))
    rw [spC_u6 17 (S 2) h x]
    rfl
theorem lfS7 (S F : Nat → Nat → Int32) (rb : Nat) {j : Nat} (hj : j < 3) : rv_ldFR (mC S F rb) (sp j) 1 6 = some (sa j 7) := lt3 (P := fun j => rv_ldFR (mC S F rb) (sp j) 1 6 = some (sa j 7)) rfl rfl rfl hj
theorem ldS7 (S F : Nat → Nat → Int32) (rb : Nat) {j : Nat} (hj : j < 3) {k : Nat} (h : k < 10) : rv_ldI (mC S F rb) (sa j 7) (nI k) = some (S j (86 + k)) := lt3 (P := fun j => rv_ldI (mC S F rb) (sa j 7) (nI k) = some (S j (86 + k))) (rv_ldI_tab (f := fun k => S 0 (86 + k)) (by decide) rfl (by decide) h) (rv_ldI_tab (f := fun k => S 1 (86 + k)) (by decide) rfl (by decide) h) (rv_ldI_tab (f := fun k => S 2 (86 + k)) (by decide) rfl (by decide) h) hj
theorem spC_u7 (b : Nat) (s : Nat → Int32) {k0 : Nat} (h : k0 < 10) (x : Int32) : spC b (upd s (86 + k0) x) = [.inr (1, [.ref (b + 1), .ref (b + 2), .ref (b + 3), .ref (b + 4), .ref (b + 5), .ref (b + 6), .ref (b + 7), .int (s 0), .int (s 2), .int (s 1), .int (s 3), .int (s 96)]), .inl (0, .inl (rv_tab 10 (fun k => s (4 + k)))), .inl (0, .inl (rv_tab 40 (fun k => s (14 + k)))), .inl (0, .inl (rv_tab 8 (fun k => s (54 + 4 * k + 0)))), .inl (0, .inl (rv_tab 8 (fun k => s (54 + 4 * k + 1)))), .inl (0, .inl (rv_tab 8 (fun k => s (54 + 4 * k + 2)))), .inl (0, .inl (rv_tab 8 (fun k => s (54 + 4 * k + 3)))), .inl (0, .inl (rv_tab 10 (upd (fun k => s (86 + k)) k0 x)))] := by
  have f0 : upd s (86 + k0) x 0 = s 0 := by simp only [upd]; grind
  have f2 : upd s (86 + k0) x 2 = s 2 := by simp only [upd]; grind
  have f1 : upd s (86 + k0) x 1 = s 1 := by simp only [upd]; grind
  have f3 : upd s (86 + k0) x 3 = s 3 := by simp only [upd]; grind
  have f96 : upd s (86 + k0) x 96 = s 96 := by simp only [upd]; grind
  have a1 : rv_tab 10 (fun k => upd s (86 + k0) x (4 + k)) = rv_tab 10 (fun k => s (4 + k)) := rv_tab_congr (fun k hk => by simp only [upd]; grind)
  have a2 : rv_tab 40 (fun k => upd s (86 + k0) x (14 + k)) = rv_tab 40 (fun k => s (14 + k)) := rv_tab_congr (fun k hk => by simp only [upd]; grind)
  have a3 : rv_tab 8 (fun k => upd s (86 + k0) x (54 + 4 * k + 0)) = rv_tab 8 (fun k => s (54 + 4 * k + 0)) := rv_tab_congr (fun k hk => by simp only [upd]; grind)
  have a4 : rv_tab 8 (fun k => upd s (86 + k0) x (54 + 4 * k + 1)) = rv_tab 8 (fun k => s (54 + 4 * k + 1)) := rv_tab_congr (fun k hk => by simp only [upd]; grind)
  have a5 : rv_tab 8 (fun k => upd s (86 + k0) x (54 + 4 * k + 2)) = rv_tab 8 (fun k => s (54 + 4 * k + 2)) := rv_tab_congr (fun k hk => by simp only [upd]; grind)
  have a6 : rv_tab 8 (fun k => upd s (86 + k0) x (54 + 4 * k + 3)) = rv_tab 8 (fun k => s (54 + 4 * k + 3)) := rv_tab_congr (fun k hk => by simp only [upd]; grind)
  have a7 : rv_tab 10 (fun k => upd s (86 + k0) x (86 + k)) = rv_tab 10 (upd (fun k => s (86 + k)) k0 x) := rv_tab_congr (fun k hk => by simp only [upd]; grind)
  unfold spC
  rw [f0, f2, f1, f3, f96, a1, a2, a3, a4, a5, a6, a7]
theorem stS7 (S F : Nat → Nat → Int32) (rb : Nat) {j : Nat} (hj : j < 3) {k : Nat} (h : k < 10) (x : Int32) : rv_stI (mC S F rb) (sa j 7) (nI k) x = some (mC (upB S j (86 + k) x) F rb) := by
  refine lt3 (P := fun j => rv_stI (mC S F rb) (sa j 7) (nI k) x = some (mC (upB S j (86 + k) x) F rb)) ?_ ?_ ?_ hj
  · refine (rv_stI_tab (n := 10) (f := fun k => S 0 (86 + k)) rfl (by decide) h x).trans (congrArg some ?_)
    show _ = _ :: (spC 1 (upd (S 0) (86 + k) x) ++ (spC 9 (S 1) ++ (spC 17 (S 2) ++ _)))
    rw [spC_u7 1 (S 0) h x]
    rfl
  · refine (rv_stI_tab (n := 10) (f := fun k => S 1 (86 + k)) rfl (by decide) h x).trans (congrArg some ?_)
    show _ = _ :: (spC 1 (S 0) ++ (spC 9 (upd (S 1) (86 + k) x) ++ (spC 17 (S 2) ++ _)))
    rw [spC_u7 9 (S 1) h x]
    rfl
  · refine (rv_stI_tab (n := 10) (f := fun k => S 2 (86 + k)) rfl (by decide) h x).trans (congrArg some ?_)
    show _ = _ :: (spC 1 (S 0) ++ (spC 9 (S 1) ++ (spC 17 (upd (S 2) (86 + k) x) ++ _)))
    rw [spC_u7 17 (S 2) h x]
    rfl
theorem lgS7 (S F : Nat → Nat → Int32) (rb : Nat) {j : Nat} (hj : j < 3) : rv_ldFI (mC S F rb) (sp j) 1 7 = some (S j 0) := lt3 (P := fun j => rv_ldFI (mC S F rb) (sp j) 1 7 = some (S j 0)) rfl rfl rfl hj
theorem spC_f7 (b : Nat) (s : Nat → Int32) (x : Int32) : spC b (upd s 0 x) = [.inr (1, [.ref (b + 1), .ref (b + 2), .ref (b + 3), .ref (b + 4), .ref (b + 5), .ref (b + 6), .ref (b + 7), .int (x), .int (s 2), .int (s 1), .int (s 3), .int (s 96)]), .inl (0, .inl (rv_tab 10 (fun k => s (4 + k)))), .inl (0, .inl (rv_tab 40 (fun k => s (14 + k)))), .inl (0, .inl (rv_tab 8 (fun k => s (54 + 4 * k + 0)))), .inl (0, .inl (rv_tab 8 (fun k => s (54 + 4 * k + 1)))), .inl (0, .inl (rv_tab 8 (fun k => s (54 + 4 * k + 2)))), .inl (0, .inl (rv_tab 8 (fun k => s (54 + 4 * k + 3)))), .inl (0, .inl (rv_tab 10 (fun k => s (86 + k))))] := by
  have a1 : rv_tab 10 (fun k => upd s 0 x (4 + k)) = rv_tab 10 (fun k => s (4 + k)) := rv_tab_congr (fun k hk => by simp only [upd]; grind)
  have a2 : rv_tab 40 (fun k => upd s 0 x (14 + k)) = rv_tab 40 (fun k => s (14 + k)) := rv_tab_congr (fun k hk => by simp only [upd]; grind)
  have a3 : rv_tab 8 (fun k => upd s 0 x (54 + 4 * k + 0)) = rv_tab 8 (fun k => s (54 + 4 * k + 0)) := rv_tab_congr (fun k hk => by simp only [upd]; grind)
  have a4 : rv_tab 8 (fun k => upd s 0 x (54 + 4 * k + 1)) = rv_tab 8 (fun k => s (54 + 4 * k + 1)) := rv_tab_congr (fun k hk => by simp only [upd]; grind)
  have a5 : rv_tab 8 (fun k => upd s 0 x (54 + 4 * k + 2)) = rv_tab 8 (fun k => s (54 + 4 * k + 2)) := rv_tab_congr (fun k hk => by simp only [upd]; grind)
  have a6 : rv_tab 8 (fun k => upd s 0 x (54 + 4 * k + 3)) = rv_tab 8 (fun k => s (54 + 4 * k + 3)) := rv_tab_congr (fun k hk => by simp only [upd]; grind)
  have a7 : rv_tab 10 (fun k => upd s 0 x (86 + k)) = rv_tab 10 (fun k => s (86 + k)) := rv_tab_congr (fun k hk => by simp only [upd]; grind)
  unfold spC
  rw [a1, a2, a3, a4, a5, a6, a7]
  rfl
theorem sgS7 (S F : Nat → Nat → Int32) (rb : Nat) {j : Nat} (hj : j < 3) (x : Int32) : rv_stF (mC S F rb) (sp j) 1 7 (.int x) = some (mC (upB S j 0 x) F rb) := by
  refine lt3 (P := fun j => rv_stF (mC S F rb) (sp j) 1 7 (.int x) = some (mC (upB S j 0 x) F rb)) ?_ ?_ ?_ hj
  · show some _ = some (_ :: (spC 1 (upd (S 0) 0 x) ++ (spC 9 (S 1) ++ (spC 17 (S 2) ++ _))))
    rw [spC_f7 1 (S 0) x]
    rfl
  · show some _ = some (_ :: (spC 1 (S 0) ++ (spC 9 (upd (S 1) 0 x) ++ (spC 17 (S 2) ++ _))))
    rw [spC_f7 9 (S 1) x]
    rfl
  · show some _ = some (_ :: (spC 1 (S 0) ++ (spC 9 (S 1) ++ (spC 17 (upd (S 2) 0 x) ++ _))))
    rw [spC_f7 17 (S 2) x]
    rfl
theorem lgS8 (S F : Nat → Nat → Int32) (rb : Nat) {j : Nat} (hj : j < 3) : rv_ldFI (mC S F rb) (sp j) 1 8 = some (S j 2) := lt3 (P := fun j => rv_ldFI (mC S F rb) (sp j) 1 8 = some (S j 2)) rfl rfl rfl hj
theorem spC_f8 (b : Nat) (s : Nat → Int32) (x : Int32) : spC b (upd s 2 x) = [.inr (1, [.ref (b + 1), .ref (b + 2), .ref (b + 3), .ref (b + 4), .ref (b + 5), .ref (b + 6), .ref (b + 7), .int (s 0), .int (x), .int (s 1), .int (s 3), .int (s 96)]), .inl (0, .inl (rv_tab 10 (fun k => s (4 + k)))), .inl (0, .inl (rv_tab 40 (fun k => s (14 + k)))), .inl (0, .inl (rv_tab 8 (fun k => s (54 + 4 * k + 0)))), .inl (0, .inl (rv_tab 8 (fun k => s (54 + 4 * k + 1)))), .inl (0, .inl (rv_tab 8 (fun k => s (54 + 4 * k + 2)))), .inl (0, .inl (rv_tab 8 (fun k => s (54 + 4 * k + 3)))), .inl (0, .inl (rv_tab 10 (fun k => s (86 + k))))] := by
  have a1 : rv_tab 10 (fun k => upd s 2 x (4 + k)) = rv_tab 10 (fun k => s (4 + k)) := rv_tab_congr (fun k hk => by simp only [upd]; grind)
  have a2 : rv_tab 40 (fun k => upd s 2 x (14 + k)) = rv_tab 40 (fun k => s (14 + k)) := rv_tab_congr (fun k hk => by simp only [upd]; grind)
  have a3 : rv_tab 8 (fun k => upd s 2 x (54 + 4 * k + 0)) = rv_tab 8 (fun k => s (54 + 4 * k + 0)) := rv_tab_congr (fun k hk => by simp only [upd]; grind)
  have a4 : rv_tab 8 (fun k => upd s 2 x (54 + 4 * k + 1)) = rv_tab 8 (fun k => s (54 + 4 * k + 1)) := rv_tab_congr (fun k hk => by simp only [upd]; grind)
  have a5 : rv_tab 8 (fun k => upd s 2 x (54 + 4 * k + 2)) = rv_tab 8 (fun k => s (54 + 4 * k + 2)) := rv_tab_congr (fun k hk => by simp only [upd]; grind)
  have a6 : rv_tab 8 (fun k => upd s 2 x (54 + 4 * k + 3)) = rv_tab 8 (fun k => s (54 + 4 * k + 3)) := rv_tab_congr (fun k hk => by simp only [upd]; grind)
  have a7 : rv_tab 10 (fun k => upd s 2 x (86 + k)) = rv_tab 10 (fun k => s (86 + k)) := rv_tab_congr (fun k hk => by simp only [upd]; grind)
  unfold spC
  rw [a1, a2, a3, a4, a5, a6, a7]
  rfl
theorem sgS8 (S F : Nat → Nat → Int32) (rb : Nat) {j : Nat} (hj : j < 3) (x : Int32) : rv_stF (mC S F rb) (sp j) 1 8 (.int x) = some (mC (upB S j 2 x) F rb) := by
  refine lt3 (P := fun j => rv_stF (mC S F rb) (sp j) 1 8 (.int x) = some (mC (upB S j 2 x) F rb)) ?_ ?_ ?_ hj
  · show some _ = some (_ :: (spC 1 (upd (S 0) 2 x) ++ (spC 9 (S 1) ++ (spC 17 (S 2) ++ _))))
    rw [spC_f8 1 (S 0) x]
    rfl
  · show some _ = some (_ :: (spC 1 (S 0) ++ (spC 9 (upd (S 1) 2 x) ++ (spC 17 (S 2) ++ _))))
    rw [spC_f8 9 (S 1) x]
    rfl
  · show some _ = some (_ :: (spC 1 (S 0) ++ (spC 9 (S 1) ++ (spC 17 (upd (S 2) 2 x) ++ _))))
    rw [spC_f8 17 (S 2) x]
    rfl
theorem lgS9 (S F : Nat → Nat → Int32) (rb : Nat) {j : Nat} (hj : j < 3) : rv_ldFI (mC S F rb) (sp j) 1 9 = some (S j 1) := lt3 (P := fun j => rv_ldFI (mC S F rb) (sp j) 1 9 = some (S j 1)) rfl rfl rfl hj
theorem spC_f9 (b : Nat) (s : Nat → Int32) (x : Int32) : spC b (upd s 1 x) = [.inr (1, [.ref (b + 1), .ref (b + 2), .ref (b + 3), .ref (b + 4), .ref (b + 5), .ref (b + 6), .ref (b + 7), .int (s 0), .int (s 2), .int (x), .int (s 3), .int (s 96)]), .inl (0, .inl (rv_tab 10 (fun k => s (4 + k)))), .inl (0, .inl (rv_tab 40 (fun k => s (14 + k)))), .inl (0, .inl (rv_tab 8 (fun k => s (54 + 4 * k + 0)))), .inl (0, .inl (rv_tab 8 (fun k => s (54 + 4 * k + 1)))), .inl (0, .inl (rv_tab 8 (fun k => s (54 + 4 * k + 2)))), .inl (0, .inl (rv_tab 8 (fun k => s (54 + 4 * k + 3)))), .inl (0, .inl (rv_tab 10 (fun k => s (86 + k))))] := by
  have a1 : rv_tab 10 (fun k => upd s 1 x (4 + k)) = rv_tab 10 (fun k => s (4 + k)) := rv_tab_congr (fun k hk => by simp only [upd]; grind)
  have a2 : rv_tab 40 (fun k => upd s 1 x (14 + k)) = rv_tab 40 (fun k => s (14 + k)) := rv_tab_congr (fun k hk => by simp only [upd]; grind)
  have a3 : rv_tab 8 (fun k => upd s 1 x (54 + 4 * k + 0)) = rv_tab 8 (fun k => s (54 + 4 * k + 0)) := rv_tab_congr (fun k hk => by simp only [upd]; grind)
  have a4 : rv_tab 8 (fun k => upd s 1 x (54 + 4 * k + 1)) = rv_tab 8 (fun k => s (54 + 4 * k + 1)) := rv_tab_congr (fun k hk => by simp only [upd]; grind)
  have a5 : rv_tab 8 (fun k => upd s 1 x (54 + 4 * k + 2)) = rv_tab 8 (fun k => s (54 + 4 * k + 2)) := rv_tab_congr (fun k hk => by simp only [upd]; grind)
  have a6 : rv_tab 8 (fun k => upd s 1 x (54 + 4 * k + 3)) = rv_tab 8 (fun k => s (54 + 4 * k + 3)) := rv_tab_congr (fun k hk => by simp only [upd]; grind)
  have a7 : rv_tab 10 (fun k => upd s 1 x (86 + k)) = rv_tab 10 (fun k => s (86 + k)) := rv_tab_congr (fun k hk => by simp only [upd]; grind)
  unfold spC
  rw [a1, a2, a3, a4, a5, a6, a7]
  rfl
theorem sgS9 (S F : Nat → Nat → Int32) (rb : Nat) {j : Nat} (hj : j < 3) (x : Int32) : rv_stF (mC S F rb) (sp j) 1 9 (.int x) = some (mC (upB S j 1 x) F rb) := by
  refine lt3 (P := fun j => rv_stF (mC S F rb) (sp j) 1 9 (.int x) = some (mC (upB S j 1 x) F rb)) ?_ ?_ ?_ hj
  · show some _ = some (_ :: (spC 1 (upd (S 0) 1 x) ++ (spC 9 (S 1) ++ (spC 17 (S 2) ++ _))))
    rw [spC_f9 1 (S 0) x]
    rfl
  · show some _ = some (_ :: (spC 1 (S 0) ++ (spC 9 (upd (S 1) 1 x) ++ (spC 17 (S 2) ++ _))))
    rw [spC_f9 9 (S 1) x]
    rfl
  · show some _ = some (_ :: (spC 1 (S 0) ++ (spC 9 (S 1) ++ (spC 17 (upd (S 2) 1 x) ++ _))))
    rw [spC_f9 17 (S 2) x]
    rfl
theorem lgS10 (S F : Nat → Nat → Int32) (rb : Nat) {j : Nat} (hj : j < 3) : rv_ldFI (mC S F rb) (sp j) 1 10 = some (S j 3) := lt3 (P := fun j => rv_ldFI (mC S F rb) (sp j) 1 10 = some (S j 3)) rfl rfl rfl hj
theorem spC_f10 (b : Nat) (s : Nat → Int32) (x : Int32) : spC b (upd s 3 x) = [.inr (1, [.ref (b + 1), .ref (b + 2), .ref (b + 3), .ref (b + 4), .ref (b + 5), .ref (b + 6), .ref (b + 7), .int (s 0), .int (s 2), .int (s 1), .int (x), .int (s 96)]), .inl (0, .inl (rv_tab 10 (fun k => s (4 + k)))), .inl (0, .inl (rv_tab 40 (fun k => s (14 + k)))), .inl (0, .inl (rv_tab 8 (fun k => s (54 + 4 * k + 0)))), .inl (0, .inl (rv_tab 8 (fun k => s (54 + 4 * k + 1)))), .inl (0, .inl (rv_tab 8 (fun k => s (54 + 4 * k + 2)))), .inl (0, .inl (rv_tab 8 (fun k => s (54 + 4 * k + 3)))), .inl (0, .inl (rv_tab 10 (fun k => s (86 + k))))] := by
  have a1 : rv_tab 10 (fun k => upd s 3 x (4 + k)) = rv_tab 10 (fun k => s (4 + k)) := rv_tab_congr (fun k hk => by simp only [upd]; grind)
  have a2 : rv_tab 40 (fun k => upd s 3 x (14 + k)) = rv_tab 40 (fun k => s (14 + k)) := rv_tab_congr (fun k hk => by simp only [upd]; grind)
  have a3 : rv_tab 8 (fun k => upd s 3 x (54 + 4 * k + 0)) = rv_tab 8 (fun k => s (54 + 4 * k + 0)) := rv_tab_congr (fun k hk => by simp only [upd]; grind)
  have a4 : rv_tab 8 (fun k => upd s 3 x (54 + 4 * k + 1)) = rv_tab 8 (fun k => s (54 + 4 * k + 1)) := rv_tab_congr (fun k hk => by simp only [upd]; grind)
  have a5 : rv_tab 8 (fun k => upd s 3 x (54 + 4 * k + 2)) = rv_tab 8 (fun k => s (54 + 4 * k + 2)) := rv_tab_congr (fun k hk => by simp only [upd]; grind)
  have a6 : rv_tab 8 (fun k => upd s 3 x (54 + 4 * k + 3)) = rv_tab 8 (fun k => s (54 + 4 * k + 3)) := rv_tab_congr (fun k hk => by simp only [upd]; grind)
  have a7 : rv_tab 10 (fun k => upd s 3 x (86 + k)) = rv_tab 10 (fun k => s (86 + k)) := rv_tab_congr (fun k hk => by simp only [upd]; grind)
  unfold spC
  rw [a1, a2, a3, a4, a5, a6, a7]
  rfl
theorem sgS10 (S F : Nat → Nat → Int32) (rb : Nat) {j : Nat} (hj : j < 3) (x : Int32) : rv_stF (mC S F rb) (sp j) 1 10 (.int x) = some (mC (upB S j 3 x) F rb) := by
  refine lt3 (P := fun j => rv_stF (mC S F rb) (sp j) 1 10 (.int x) = some (mC (upB S j 3 x) F rb)) ?_ ?_ ?_ hj
  · show some _ = some (_ :: (spC 1 (upd (S 0) 3 x) ++ (spC 9 (S 1) ++ (spC 17 (S 2) ++ _))))
    rw [spC_f10 1 (S 0) x]
    rfl
  · show some _ = some (_ :: (spC 1 (S 0) ++ (spC 9 (upd (S 1) 3 x) ++ (spC 17 (S 2) ++ _))))
    rw [spC_f10 9 (S 1) x]
    rfl
  · show some _ = some (_ :: (spC 1 (S 0) ++ (spC 9 (S 1) ++ (spC 17 (upd (S 2) 3 x) ++ _))))
    rw [spC_f10 17 (S 2) x]
    rfl
theorem lgS11 (S F : Nat → Nat → Int32) (rb : Nat) {j : Nat} (hj : j < 3) : rv_ldFI (mC S F rb) (sp j) 1 11 = some (S j 96) := lt3 (P := fun j => rv_ldFI (mC S F rb) (sp j) 1 11 = some (S j 96)) rfl rfl rfl hj
theorem spC_f11 (b : Nat) (s : Nat → Int32) (x : Int32) : spC b (upd s 96 x) = [.inr (1, [.ref (b + 1), .ref (b + 2), .ref (b + 3), .ref (b + 4), .ref (b + 5), .ref (b + 6), .ref (b + 7), .int (s 0), .int (s 2), .int (s 1), .int (s 3), .int (x)]), .inl (0, .inl (rv_tab 10 (fun k => s (4 + k)))), .inl (0, .inl (rv_tab 40 (fun k => s (14 + k)))), .inl (0, .inl (rv_tab 8 (fun k => s (54 + 4 * k + 0)))), .inl (0, .inl (rv_tab 8 (fun k => s (54 + 4 * k + 1)))), .inl (0, .inl (rv_tab 8 (fun k => s (54 + 4 * k + 2)))), .inl (0, .inl (rv_tab 8 (fun k => s (54 + 4 * k + 3)))), .inl (0, .inl (rv_tab 10 (fun k => s (86 + k))))] := by
  have a1 : rv_tab 10 (fun k => upd s 96 x (4 + k)) = rv_tab 10 (fun k => s (4 + k)) := rv_tab_congr (fun k hk => by simp only [upd]; grind)
  have a2 : rv_tab 40 (fun k => upd s 96 x (14 + k)) = rv_tab 40 (fun k => s (14 + k)) := rv_tab_congr (fun k hk => by simp only [upd]; grind)
  have a3 : rv_tab 8 (fun k => upd s 96 x (54 + 4 * k + 0)) = rv_tab 8 (fun k => s (54 + 4 * k + 0)) := rv_tab_congr (fun k hk => by simp only [upd]; grind)
  have a4 : rv_tab 8 (fun k => upd s 96 x (54 + 4 * k + 1)) = rv_tab 8 (fun k => s (54 + 4 * k + 1)) := rv_tab_congr (fun k hk => by simp only [upd]; grind)
  have a5 : rv_tab 8 (fun k => upd s 96 x (54 + 4 * k + 2)) = rv_tab 8 (fun k => s (54 + 4 * k + 2)) := rv_tab_congr (fun k hk => by simp only [upd]; grind)
  have a6 : rv_tab 8 (fun k => upd s 96 x (54 + 4 * k + 3)) = rv_tab 8 (fun k => s (54 + 4 * k + 3)) := rv_tab_congr (fun k hk => by simp only [upd]; grind)
  have a7 : rv_tab 10 (fun k => upd s 96 x (86 + k)) = rv_tab 10 (fun k => s (86 + k)) := rv_tab_congr (fun k hk => by simp only [upd]; grind)
  unfold spC
  rw [a1, a2, a3, a4, a5, a6, a7]
  rfl
theorem sgS11 (S F : Nat → Nat → Int32) (rb : Nat) {j : Nat} (hj : j < 3) (x : Int32) : rv_stF (mC S F rb) (sp j) 1 11 (.int x) = some (mC (upB S j 96 x) F rb) := by
  refine lt3 (P := fun j => rv_stF (mC S F rb) (sp j) 1 11 (.int x) = some (mC (upB S j 96 x) F rb)) ?_ ?_ ?_ hj
  · show some _ = some (_ :: (spC 1 (upd (S 0) 96 x) ++ (spC 9 (S 1) ++ (spC 17 (S 2) ++ _))))
    rw [spC_f11 1 (S 0) x]
    rfl
  · show some _ = some (_ :: (spC 1 (S 0) ++ (spC 9 (upd (S 1) 96 x) ++ (spC 17 (S 2) ++ _))))
    rw [spC_f11 9 (S 1) x]
    rfl
  · show some _ = some (_ :: (spC 1 (S 0) ++ (spC 9 (S 1) ++ (spC 17 (upd (S 2) 96 x) ++ _))))
    rw [spC_f11 17 (S 2) x]
    rfl
theorem obS (S F : Nat → Nat → Int32) (rb : Nat) {j : Nat} (hj : j < 3) : (rv_obj (mC S F rb) (sp j) 1).isSome = true := lt3 (P := fun j => (rv_obj (mC S F rb) (sp j) 1).isSome = true) rfl rfl rfl hj
theorem lfC0 (S F : Nat → Nat → Int32) (rb : Nat) : rv_ldFR (mC S F rb) 0 3 0 = some (sp 0) := rfl
theorem lfC1 (S F : Nat → Nat → Int32) (rb : Nat) : rv_ldFR (mC S F rb) 0 3 1 = some (sp 1) := rfl
theorem lfC2 (S F : Nat → Nat → Int32) (rb : Nat) : rv_ldFR (mC S F rb) 0 3 2 = some (sp 2) := rfl
theorem lfC3 (S F : Nat → Nat → Int32) (rb : Nat) : rv_ldFR (mC S F rb) 0 3 3 = some 25 := rfl
theorem lfC4 (S F : Nat → Nat → Int32) (rb : Nat) : rv_ldFR (mC S F rb) 0 3 4 = some 34 := rfl
theorem lfC5 (S F : Nat → Nat → Int32) (rb : Nat) : rv_ldFR (mC S F rb) 0 3 5 = some 35 := rfl
theorem lfC6 (S F : Nat → Nat → Int32) (rb : Nat) : rv_ldFR (mC S F rb) 0 3 6 = some 37 := rfl
theorem lgC7 (S F : Nat → Nat → Int32) (rb : Nat) : rv_ldFI (mC S F rb) 0 3 7 = some (F 0 7) := rfl
theorem sgC7 (S F : Nat → Nat → Int32) (rb : Nat) (x : Int32) : rv_stF (mC S F rb) 0 3 7 (.int x) = some (mC S (upB F 0 7 x) rb) := rfl
theorem lgC8 (S F : Nat → Nat → Int32) (rb : Nat) : rv_ldFI (mC S F rb) 0 3 8 = some (F 0 8) := rfl
theorem sgC8 (S F : Nat → Nat → Int32) (rb : Nat) (x : Int32) : rv_stF (mC S F rb) 0 3 8 (.int x) = some (mC S (upB F 0 8 x) rb) := rfl
theorem obC (S F : Nat → Nat → Int32) (rb : Nat) : (rv_obj (mC S F rb) 0 3).isSome = true := rfl
theorem ldQ (S F : Nat → Nat → Int32) (rb : Nat) {i : Nat} (hi : i < 4) : rv_ldQ (mC S F rb) 25 (nI i) = some (sh i) := lt4 (P := fun i => rv_ldQ (mC S F rb) 25 (nI i) = some (sh i)) rfl rfl rfl rfl hi
theorem obH (S F : Nat → Nat → Int32) (rb : Nat) {i : Nat} (hi : i < 4) : (rv_obj (mC S F rb) (sh i) 0).isSome = true := lt4 (P := fun i => (rv_obj (mC S F rb) (sh i) 0).isSome = true) rfl rfl rfl rfl hi
theorem lfH (S F : Nat → Nat → Int32) (rb : Nat) {i : Nat} (hi : i < 4) : rv_ldFR (mC S F rb) (sh i) 0 0 = some (sn i) := lt4 (P := fun i => rv_ldFR (mC S F rb) (sh i) 0 0 = some (sn i)) rfl rfl rfl rfl hi
theorem lgH1 (S F : Nat → Nat → Int32) (rb : Nat) {i : Nat} (hi : i < 4) : rv_ldFI (mC S F rb) (sh i) 0 1 = some (F (sh i) 1) := lt4 (P := fun i => rv_ldFI (mC S F rb) (sh i) 0 1 = some (F (sh i) 1)) rfl rfl rfl rfl hi
theorem sgH1 (S F : Nat → Nat → Int32) (rb : Nat) {i : Nat} (hi : i < 4) (x : Int32) : rv_stF (mC S F rb) (sh i) 0 1 (.int x) = some (mC S (upB F (sh i) 1 x) rb) := lt4 (P := fun i => rv_stF (mC S F rb) (sh i) 0 1 (.int x) = some (mC S (upB F (sh i) 1 x) rb)) rfl rfl rfl rfl hi
theorem lgH2 (S F : Nat → Nat → Int32) (rb : Nat) {i : Nat} (hi : i < 4) : rv_ldFI (mC S F rb) (sh i) 0 2 = some (F (sh i) 2) := lt4 (P := fun i => rv_ldFI (mC S F rb) (sh i) 0 2 = some (F (sh i) 2)) rfl rfl rfl rfl hi
theorem sgH2 (S F : Nat → Nat → Int32) (rb : Nat) {i : Nat} (hi : i < 4) (x : Int32) : rv_stF (mC S F rb) (sh i) 0 2 (.int x) = some (mC S (upB F (sh i) 2 x) rb) := lt4 (P := fun i => rv_stF (mC S F rb) (sh i) 0 2 (.int x) = some (mC S (upB F (sh i) 2 x) rb)) rfl rfl rfl rfl hi
theorem ldH (S F : Nat → Nat → Int32) (rb : Nat) {i : Nat} (hi : i < 4) {k : Nat} (h : k < 40) : rv_ldI (mC S F rb) (sn i) (nI k) = some (F (sn i) k) := lt4 (P := fun i => rv_ldI (mC S F rb) (sn i) (nI k) = some (F (sn i) k)) (rv_ldI_tab (by decide) rfl (by decide) h) (rv_ldI_tab (by decide) rfl (by decide) h) (rv_ldI_tab (by decide) rfl (by decide) h) (rv_ldI_tab (by decide) rfl (by decide) h) hi
theorem stH (S F : Nat → Nat → Int32) (rb : Nat) {i : Nat} (hi : i < 4) {k : Nat} (h : k < 40) (x : Int32) : rv_stI (mC S F rb) (sn i) (nI k) x = some (mC S (upB F (sn i) k x) rb) := by
  refine lt4 (P := fun i => rv_stI (mC S F rb) (sn i) (nI k) x = some (mC S (upB F (sn i) k x) rb)) ?_ ?_ ?_ ?_ hi
  · exact (rv_stI_tab (n := 40) (f := F 27) rfl (by decide) h x).trans rfl
  · exact (rv_stI_tab (n := 40) (f := F 29) rfl (by decide) h x).trans rfl
  · exact (rv_stI_tab (n := 40) (f := F 31) rfl (by decide) h x).trans rfl
  · exact (rv_stI_tab (n := 40) (f := F 33) rfl (by decide) h x).trans rfl
theorem ldF (S F : Nat → Nat → Int32) (rb : Nat) {k : Nat} (h : k < 7) : rv_ldI (mC S F rb) 37 (nI k) = some (F 37 k) := rv_ldI_tab (by decide) rfl (by decide) h
theorem stF (S F : Nat → Nat → Int32) (rb : Nat) {k : Nat} (h : k < 7) (x : Int32) : rv_stI (mC S F rb) 37 (nI k) x = some (mC S (upB F 37 k x) rb) := (rv_stI_tab (n := 7) (f := F 37) rfl (by decide) h x).trans rfl
theorem ldT (S F : Nat → Nat → Int32) (rb : Nat) {k : Nat} (h : k < 120) : rv_ldB (mC S F rb) 34 (nI k) = some (F 34 k) := rv_ldB_tab (by decide) rfl (by decide) h
theorem stT (S F : Nat → Nat → Int32) (rb : Nat) {k : Nat} (h : k < 120) (x : Int32) : rv_stB (mC S F rb) 34 (nI k) x = some (mC S (upB F 34 k x.toInt8.toInt32) rb) := (rv_stB_tab (n := 120) (f := F 34) rfl (by decide) h x).trans rfl
theorem lfB (S F : Nat → Nat → Int32) (rb : Nat) : rv_ldFR (mC S F rb) 35 2 0 = some rb := rfl
theorem sfB (S F : Nat → Nat → Int32) (rb : Nat) (x : Nat) : rv_stF (mC S F rb) 35 2 0 (.ref x) = some (mC S F x) := rfl
theorem obB (S F : Nat → Nat → Int32) (rb : Nat) : (rv_obj (mC S F rb) 35 2).isSome = true := rfl
theorem lgB1 (S F : Nat → Nat → Int32) (rb : Nat) : rv_ldFI (mC S F rb) 35 2 1 = some (F 35 1) := rfl
theorem sgB1 (S F : Nat → Nat → Int32) (rb : Nat) (x : Int32) : rv_stF (mC S F rb) 35 2 1 (.int x) = some (mC S (upB F 35 1 x) rb) := rfl
theorem lgB2 (S F : Nat → Nat → Int32) (rb : Nat) : rv_ldFI (mC S F rb) 35 2 2 = some (F 35 2) := rfl
theorem sgB2 (S F : Nat → Nat → Int32) (rb : Nat) (x : Int32) : rv_stF (mC S F rb) 35 2 2 (.int x) = some (mC S (upB F 35 2 x) rb) := rfl
theorem lgB3 (S F : Nat → Nat → Int32) (rb : Nat) : rv_ldFI (mC S F rb) 35 2 3 = some (F 35 3) := rfl
theorem sgB3 (S F : Nat → Nat → Int32) (rb : Nat) (x : Int32) : rv_stF (mC S F rb) 35 2 3 (.int x) = some (mC S (upB F 35 3 x) rb) := rfl
theorem lgB4 (S F : Nat → Nat → Int32) (rb : Nat) : rv_ldFI (mC S F rb) 35 2 4 = some (F 35 4) := rfl
theorem sgB4 (S F : Nat → Nat → Int32) (rb : Nat) (x : Int32) : rv_stF (mC S F rb) 35 2 4 (.int x) = some (mC S (upB F 35 4 x) rb) := rfl
theorem lgB5 (S F : Nat → Nat → Int32) (rb : Nat) : rv_ldFI (mC S F rb) 35 2 5 = some (F 35 5) := rfl
theorem sgB5 (S F : Nat → Nat → Int32) (rb : Nat) (x : Int32) : rv_stF (mC S F rb) 35 2 5 (.int x) = some (mC S (upB F 35 5 x) rb) := rfl
