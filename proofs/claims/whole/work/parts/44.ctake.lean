/-! ONE SPA TAKEN OVER -/
def mix1 (s q : Nat → Int32) : Nat → Int32 := fun i => if 4 ≤ i ∧ i < 14 then q i else s i
theorem spC_m1 (b : Nat) (s q : Nat → Int32) : spC b (mix1 s q) = [.inr (1, [.ref (b + 1), .ref (b + 2), .ref (b + 3), .ref (b + 4), .ref (b + 5), .ref (b + 6), .ref (b + 7), .int (s 0), .int (s 2), .int (s 1), .int (s 3), .int (s 96)]), .inl (0, .inl (rv_tab 10 (fun k => q (4 + k)))), .inl (0, .inl (rv_tab 40 (fun k => s (14 + k)))), .inl (0, .inl (rv_tab 8 (fun k => s (54 + 4 * k + 0)))), .inl (0, .inl (rv_tab 8 (fun k => s (54 + 4 * k + 1)))), .inl (0, .inl (rv_tab 8 (fun k => s (54 + 4 * k + 2)))), .inl (0, .inl (rv_tab 8 (fun k => s (54 + 4 * k + 3)))), .inl (0, .inl (rv_tab 10 (fun k => s (86 + k))))] := by
  have f0 : mix1 s q 0 = s 0 := by simp only [mix1]; grind
  have f2 : mix1 s q 2 = s 2 := by simp only [mix1]; grind
  have f1 : mix1 s q 1 = s 1 := by simp only [mix1]; grind
  have f3 : mix1 s q 3 = s 3 := by simp only [mix1]; grind
  have f96 : mix1 s q 96 = s 96 := by simp only [mix1]; grind
  have a1 : rv_tab 10 (fun k => mix1 s q (4 + k)) = rv_tab 10 (fun k => q (4 + k)) := rv_tab_congr (fun k hk => by simp only [mix1]; grind)
  have a2 : rv_tab 40 (fun k => mix1 s q (14 + k)) = rv_tab 40 (fun k => s (14 + k)) := rv_tab_congr (fun k hk => by simp only [mix1]; grind)
  have a3 : rv_tab 8 (fun k => mix1 s q (54 + 4 * k + 0)) = rv_tab 8 (fun k => s (54 + 4 * k + 0)) := rv_tab_congr (fun k hk => by simp only [mix1]; grind)
  have a4 : rv_tab 8 (fun k => mix1 s q (54 + 4 * k + 1)) = rv_tab 8 (fun k => s (54 + 4 * k + 1)) := rv_tab_congr (fun k hk => by simp only [mix1]; grind)
  have a5 : rv_tab 8 (fun k => mix1 s q (54 + 4 * k + 2)) = rv_tab 8 (fun k => s (54 + 4 * k + 2)) := rv_tab_congr (fun k hk => by simp only [mix1]; grind)
  have a6 : rv_tab 8 (fun k => mix1 s q (54 + 4 * k + 3)) = rv_tab 8 (fun k => s (54 + 4 * k + 3)) := rv_tab_congr (fun k hk => by simp only [mix1]; grind)
  have a7 : rv_tab 10 (fun k => mix1 s q (86 + k)) = rv_tab 10 (fun k => s (86 + k)) := rv_tab_congr (fun k hk => by simp only [mix1]; grind)
  unfold spC
  rw [f0, f2, f1, f3, f96, a1, a2, a3, a4, a5, a6, a7]
theorem setM1 (S F : Nat → Nat → Int32) (rb : Nat) {j : Nat} (hj : j < 3) (q : Nat → Int32) : (mC S F rb).set (sa j 1) (.inl (0, .inl (rv_tab 10 (fun k => q (4 + k))))) = mC (upA S j (mix1 (S j) q)) F rb := by
  refine lt3 (P := fun j => (mC S F rb).set (sa j 1) (.inl (0, .inl (rv_tab 10 (fun k => q (4 + k))))) = mC (upA S j (mix1 (S j) q)) F rb) ?_ ?_ ?_ hj
  · show _ = _ :: (spC 1 (mix1 (S 0) q) ++ (spC 9 (S 1) ++ (spC 17 (S 2) ++ _)))
    rw [spC_m1 1 (S 0) q]
    rfl
  · show _ = _ :: (spC 1 (S 0) ++ (spC 9 (mix1 (S 1) q) ++ (spC 17 (S 2) ++ _)))
    rw [spC_m1 9 (S 1) q]
    rfl
  · show _ = _ :: (spC 1 (S 0) ++ (spC 9 (S 1) ++ (spC 17 (mix1 (S 2) q) ++ _)))
    rw [spC_m1 17 (S 2) q]
    rfl
theorem getM1 (S F : Nat → Nat → Int32) (rb : Nat) {j : Nat} (hj : j < 3) : (mC S F rb)[sa j 1]? = some (.inl (0, .inl (rv_tab 10 (fun k => S j (4 + k))))) := lt3 (P := fun j => (mC S F rb)[sa j 1]? = some (.inl (0, .inl (rv_tab 10 (fun k => S j (4 + k)))))) rfl rfl rfl hj
theorem cpyR1 (S : Nat → Nat → Int32) {i j : Nat} (hi : i < 3) (hj : j < 3) (hij : ¬ i = j) (s : Nat → Int32) (F : Nat → Nat → Int32) (rb : Nat) : rv_cpy (cR S j s F rb) (sa i 1) 0 (sa j 1) 0 10 = some (cR S j (mix1 s (S i)) F rb) := by
  unfold cR
  rw [show (10 : Int32) = nI 10 from rfl, cpy_at (getM1 _ F rb hi) (getM1 _ F rb hj) (by decide), upA_n S hij, setM1 _ F rb hj (S i), upA_upA, upA_s]
def mix2 (s q : Nat → Int32) : Nat → Int32 := fun i => if 14 ≤ i ∧ i < 54 then q i else s i
theorem spC_m2 (b : Nat) (s q : Nat → Int32) : spC b (mix2 s q) = [.inr (1, [.ref (b + 1), .ref (b + 2), .ref (b + 3), .ref (b + 4), .ref (b + 5), .ref (b + 6), .ref (b + 7), .int (s 0), .int (s 2), .int (s 1), .int (s 3), .int (s 96)]), .inl (0, .inl (rv_tab 10 (fun k => s (4 + k)))), .inl (0, .inl (rv_tab 40 (fun k => q (14 + k)))), .inl (0, .inl (rv_tab 8 (fun k => s (54 + 4 * k + 0)))), .inl (0, .inl (rv_tab 8 (fun k => s (54 + 4 * k + 1)))), .inl (0, .inl (rv_tab 8 (fun k => s (54 + 4 * k + 2)))), .inl (0, .inl (rv_tab 8 (fun k => s (54 + 4 * k + 3)))), .inl (0, .inl (rv_tab 10 (fun k => s (86 + k))))] := by
  have f0 : mix2 s q 0 = s 0 := by simp only [mix2]; grind
  have f2 : mix2 s q 2 = s 2 := by simp only [mix2]; grind
  have f1 : mix2 s q 1 = s 1 := by simp only [mix2]; grind
  have f3 : mix2 s q 3 = s 3 := by simp only [mix2]; grind
  have f96 : mix2 s q 96 = s 96 := by simp only [mix2]; grind
  have a1 : rv_tab 10 (fun k => mix2 s q (4 + k)) = rv_tab 10 (fun k => s (4 + k)) := rv_tab_congr (fun k hk => by simp only [mix2]; grind)
  have a2 : rv_tab 40 (fun k => mix2 s q (14 + k)) = rv_tab 40 (fun k => q (14 + k)) := rv_tab_congr (fun k hk => by simp only [mix2]; grind)
  have a3 : rv_tab 8 (fun k => mix2 s q (54 + 4 * k + 0)) = rv_tab 8 (fun k => s (54 + 4 * k + 0)) := rv_tab_congr (fun k hk => by simp only [mix2]; grind)
  have a4 : rv_tab 8 (fun k => mix2 s q (54 + 4 * k + 1)) = rv_tab 8 (fun k => s (54 + 4 * k + 1)) := rv_tab_congr (fun k hk => by simp only [mix2]; grind)
  have a5 : rv_tab 8 (fun k => mix2 s q (54 + 4 * k + 2)) = rv_tab 8 (fun k => s (54 + 4 * k + 2)) := rv_tab_congr (fun k hk => by simp only [mix2]; grind)
  have a6 : rv_tab 8 (fun k => mix2 s q (54 + 4 * k + 3)) = rv_tab 8 (fun k => s (54 + 4 * k + 3)) := rv_tab_congr (fun k hk => by simp only [mix2]; grind)
  have a7 : rv_tab 10 (fun k => mix2 s q (86 + k)) = rv_tab 10 (fun k => s (86 + k)) := rv_tab_congr (fun k hk => by simp only [mix2]; grind)
  unfold spC
  rw [f0, f2, f1, f3, f96, a1, a2, a3, a4, a5, a6, a7]
theorem setM2 (S F : Nat → Nat → Int32) (rb : Nat) {j : Nat} (hj : j < 3) (q : Nat → Int32) : (mC S F rb).set (sa j 2) (.inl (0, .inl (rv_tab 40 (fun k => q (14 + k))))) = mC (upA S j (mix2 (S j) q)) F rb := by
  refine lt3 (P := fun j => (mC S F rb).set (sa j 2) (.inl (0, .inl (rv_tab 40 (fun k => q (14 + k))))) = mC (upA S j (mix2 (S j) q)) F rb) ?_ ?_ ?_ hj
  · show _ = _ :: (spC 1 (mix2 (S 0) q) ++ (spC 9 (S 1) ++ (spC 17 (S 2) ++ _)))
    rw [spC_m2 1 (S 0) q]
    rfl
  · show _ = _ :: (spC 1 (S 0) ++ (spC 9 (mix2 (S 1) q) ++ (spC 17 (S 2) ++ _)))
    rw [spC_m2 9 (S 1) q]
    rfl
  · show _ = _ :: (spC 1 (S 0) ++ (spC 9 (S 1) ++ (spC 17 (mix2 (S 2) q) ++ _)))
    rw [spC_m2 17 (S 2) q]
    rfl
theorem getM2 (S F : Nat → Nat → Int32) (rb : Nat) {j : Nat} (hj : j < 3) : (mC S F rb)[sa j 2]? = some (.inl (0, .inl (rv_tab 40 (fun k => S j (14 + k))))) := lt3 (P := fun j => (mC S F rb)[sa j 2]? = some (.inl (0, .inl (rv_tab 40 (fun k => S j (14 + k)))))) rfl rfl rfl hj
theorem cpyR2 (S : Nat → Nat → Int32) {i j : Nat} (hi : i < 3) (hj : j < 3) (hij : ¬ i = j) (s : Nat → Int32) (F : Nat → Nat → Int32) (rb : Nat) : rv_cpy (cR S j s F rb) (sa i 2) 0 (sa j 2) 0 40 = some (cR S j (mix2 s (S i)) F rb) := by
  unfold cR
  rw [show (40 : Int32) = nI 40 from rfl, cpy_at (getM2 _ F rb hi) (getM2 _ F rb hj) (by decide), upA_n S hij, setM2 _ F rb hj (S i), upA_upA, upA_s]
def mix3 (s q : Nat → Int32) : Nat → Int32 := fun i => if 54 ≤ i ∧ i < 86 ∧ i % 4 = 2 then q i else s i
theorem spC_m3 (b : Nat) (s q : Nat → Int32) : spC b (mix3 s q) = [.inr (1, [.ref (b + 1), .ref (b + 2), .ref (b + 3), .ref (b + 4), .ref (b + 5), .ref (b + 6), .ref (b + 7), .int (s 0), .int (s 2), .int (s 1), .int (s 3), .int (s 96)]), .inl (0, .inl (rv_tab 10 (fun k => s (4 + k)))), .inl (0, .inl (rv_tab 40 (fun k => s (14 + k)))), .inl (0, .inl (rv_tab 8 (fun k => q (54 + 4 * k + 0)))), .inl (0, .inl (rv_tab 8 (fun k => s (54 + 4 * k + 1)))), .inl (0, .inl (rv_tab 8 (fun k => s (54 + 4 * k + 2)))), .inl (0, .inl (rv_tab 8 (fun k => s (54 + 4 * k + 3)))), .inl (0, .inl (rv_tab 10 (fun k => s (86 + k))))] := by
  have f0 : mix3 s q 0 = s 0 := by simp only [mix3]; grind
  have f2 : mix3 s q 2 = s 2 := by simp only [mix3]; grind
  have f1 : mix3 s q 1 = s 1 := by simp only [mix3]; grind
  have f3 : mix3 s q 3 = s 3 := by simp only [mix3]; grind
  have f96 : mix3 s q 96 = s 96 := by simp only [mix3]; grind
  have a1 : rv_tab 10 (fun k => mix3 s q (4 + k)) = rv_tab 10 (fun k => s (4 + k)) := rv_tab_congr (fun k hk => by simp only [mix3]; grind)
  have a2 : rv_tab 40 (fun k => mix3 s q (14 + k)) = rv_tab 40 (fun k => s (14 + k)) := rv_tab_congr (fun k hk => by simp only [mix3]; grind)
  have a3 : rv_tab 8 (fun k => mix3 s q (54 + 4 * k + 0)) = rv_tab 8 (fun k => q (54 + 4 * k + 0)) := rv_tab_congr (fun k hk => by simp only [mix3]; grind)
  have a4 : rv_tab 8 (fun k => mix3 s q (54 + 4 * k + 1)) = rv_tab 8 (fun k => s (54 + 4 * k + 1)) := rv_tab_congr (fun k hk => by simp only [mix3]; grind)
  have a5 : rv_tab 8 (fun k => mix3 s q (54 + 4 * k + 2)) = rv_tab 8 (fun k => s (54 + 4 * k + 2)) := rv_tab_congr (fun k hk => by simp only [mix3]; grind)
  have a6 : rv_tab 8 (fun k => mix3 s q (54 + 4 * k + 3)) = rv_tab 8 (fun k => s (54 + 4 * k + 3)) := rv_tab_congr (fun k hk => by simp only [mix3]; grind)
  have a7 : rv_tab 10 (fun k => mix3 s q (86 + k)) = rv_tab 10 (fun k => s (86 + k)) := rv_tab_congr (fun k hk => by simp only [mix3]; grind)
  unfold spC
  rw [f0, f2, f1, f3, f96, a1, a2, a3, a4, a5, a6, a7]
theorem setM3 (S F : Nat → Nat → Int32) (rb : Nat) {j : Nat} (hj : j < 3) (q : Nat → Int32) : (mC S F rb).set (sa j 3) (.inl (0, .inl (rv_tab 8 (fun k => q (54 + 4 * k + 0))))) = mC (upA S j (mix3 (S j) q)) F rb := by
  refine lt3 (P := fun j => (mC S F rb).set (sa j 3) (.inl (0, .inl (rv_tab 8 (fun k => q (54 + 4 * k + 0))))) = mC (upA S j (mix3 (S j) q)) F rb) ?_ ?_ ?_ hj
  · show _ = _ :: (spC 1 (mix3 (S 0) q) ++ (spC 9 (S 1) ++ (spC 17 (S 2) ++ _)))
    rw [spC_m3 1 (S 0) q]
    rfl
  · show _ = _ :: (spC 1 (S 0) ++ (spC 9 (mix3 (S 1) q) ++ (spC 17 (S 2) ++ _)))
    rw [spC_m3 9 (S 1) q]
    rfl
  · show _ = _ :: (spC 1 (S 0) ++ (spC 9 (S 1) ++ (spC 17 (mix3 (S 2) q) ++ _)))
    rw [spC_m3 17 (S 2) q]
    rfl
theorem getM3 (S F : Nat → Nat → Int32) (rb : Nat) {j : Nat} (hj : j < 3) : (mC S F rb)[sa j 3]? = some (.inl (0, .inl (rv_tab 8 (fun k => S j (54 + 4 * k + 0))))) := lt3 (P := fun j => (mC S F rb)[sa j 3]? = some (.inl (0, .inl (rv_tab 8 (fun k => S j (54 + 4 * k + 0)))))) rfl rfl rfl hj
theorem cpyR3 (S : Nat → Nat → Int32) {i j : Nat} (hi : i < 3) (hj : j < 3) (hij : ¬ i = j) (s : Nat → Int32) (F : Nat → Nat → Int32) (rb : Nat) : rv_cpy (cR S j s F rb) (sa i 3) 0 (sa j 3) 0 8 = some (cR S j (mix3 s (S i)) F rb) := by
  unfold cR
  rw [show (8 : Int32) = nI 8 from rfl, cpy_at (getM3 _ F rb hi) (getM3 _ F rb hj) (by decide), upA_n S hij, setM3 _ F rb hj (S i), upA_upA, upA_s]
def mix4 (s q : Nat → Int32) : Nat → Int32 := fun i => if 54 ≤ i ∧ i < 86 ∧ i % 4 = 3 then q i else s i
theorem spC_m4 (b : Nat) (s q : Nat → Int32) : spC b (mix4 s q) = [.inr (1, [.ref (b + 1), .ref (b + 2), .ref (b + 3), .ref (b + 4), .ref (b + 5), .ref (b + 6), .ref (b + 7), .int (s 0), .int (s 2), .int (s 1), .int (s 3), .int (s 96)]), .inl (0, .inl (rv_tab 10 (fun k => s (4 + k)))), .inl (0, .inl (rv_tab 40 (fun k => s (14 + k)))), .inl (0, .inl (rv_tab 8 (fun k => s (54 + 4 * k + 0)))), .inl (0, .inl (rv_tab 8 (fun k => q (54 + 4 * k + 1)))), .inl (0, .inl (rv_tab 8 (fun k => s (54 + 4 * k + 2)))), .inl (0, .inl (rv_tab 8 (fun k => s (54 + 4 * k + 3)))), .inl (0, .inl (rv_tab 10 (fun k => s (86 + k))))] := by
  have f0 : mix4 s q 0 = s 0 := by simp only [mix4]; grind
  have f2 : mix4 s q 2 = s 2 := by simp only [mix4]; grind
  have f1 : mix4 s q 1 = s 1 := by simp only [mix4]; grind
  have f3 : mix4 s q 3 = s 3 := by simp only [mix4]; grind
  have f96 : mix4 s q 96 = s 96 := by simp only [mix4]; grind
  have a1 : rv_tab 10 (fun k => mix4 s q (4 + k)) = rv_tab 10 (fun k => s (4 + k)) := rv_tab_congr (fun k hk => by simp only [mix4]; grind)
  have a2 : rv_tab 40 (fun k => mix4 s q (14 + k)) = rv_tab 40 (fun k => s (14 + k)) := rv_tab_congr (fun k hk => by simp only [mix4]; grind)
  have a3 : rv_tab 8 (fun k => mix4 s q (54 + 4 * k + 0)) = rv_tab 8 (fun k => s (54 + 4 * k + 0)) := rv_tab_congr (fun k hk => by simp only [mix4]; grind)
  have a4 : rv_tab 8 (fun k => mix4 s q (54 + 4 * k + 1)) = rv_tab 8 (fun k => q (54 + 4 * k + 1)) := rv_tab_congr (fun k hk => by simp only [mix4]; grind)
  have a5 : rv_tab 8 (fun k => mix4 s q (54 + 4 * k + 2)) = rv_tab 8 (fun k => s (54 + 4 * k + 2)) := rv_tab_congr (fun k hk => by simp only [mix4]; grind)
  have a6 : rv_tab 8 (fun k => mix4 s q (54 + 4 * k + 3)) = rv_tab 8 (fun k => s (54 + 4 * k + 3)) := rv_tab_congr (fun k hk => by simp only [mix4]; grind)
  have a7 : rv_tab 10 (fun k => mix4 s q (86 + k)) = rv_tab 10 (fun k => s (86 + k)) := rv_tab_congr (fun k hk => by simp only [mix4]; grind)
  unfold spC
  rw [f0, f2, f1, f3, f96, a1, a2, a3, a4, a5, a6, a7]
theorem setM4 (S F : Nat → Nat → Int32) (rb : Nat) {j : Nat} (hj : j < 3) (q : Nat → Int32) : (mC S F rb).set (sa j 4) (.inl (0, .inl (rv_tab 8 (fun k => q (54 + 4 * k + 1))))) = mC (upA S j (mix4 (S j) q)) F rb := by
  refine lt3 (P := fun j => (mC S F rb).set (sa j 4) (.inl (0, .inl (rv_tab 8 (fun k => q (54 + 4 * k + 1))))) = mC (upA S j (mix4 (S j) q)) F rb) ?_ ?_ ?_ hj
  · show _ = _ :: (spC 1 (mix4 (S 0) q) ++ (spC 9 (S 1) ++ (spC 17 (S 2) ++ _)))
    rw [spC_m4 1 (S 0) q]
    rfl
  · show _ = _ :: (spC 1 (S 0) ++ (spC 9 (mix4 (S 1) q) ++ (spC 17 (S 2) ++ _)))
    rw [spC_m4 9 (S 1) q]
    rfl
  · show _ = _ :: (spC 1 (S 0) ++ (spC 9 (S 1) ++ (spC 17 (mix4 (S 2) q) ++ _)))
    rw [spC_m4 17 (S 2) q]
    rfl
theorem getM4 (S F : Nat → Nat → Int32) (rb : Nat) {j : Nat} (hj : j < 3) : (mC S F rb)[sa j 4]? = some (.inl (0, .inl (rv_tab 8 (fun k => S j (54 + 4 * k + 1))))) := lt3 (P := fun j => (mC S F rb)[sa j 4]? = some (.inl (0, .inl (rv_tab 8 (fun k => S j (54 + 4 * k + 1)))))) rfl rfl rfl hj
theorem cpyR4 (S : Nat → Nat → Int32) {i j : Nat} (hi : i < 3) (hj : j < 3) (hij : ¬ i = j) (s : Nat → Int32) (F : Nat → Nat → Int32) (rb : Nat) : rv_cpy (cR S j s F rb) (sa i 4) 0 (sa j 4) 0 8 = some (cR S j (mix4 s (S i)) F rb) := by
  unfold cR
  rw [show (8 : Int32) = nI 8 from rfl, cpy_at (getM4 _ F rb hi) (getM4 _ F rb hj) (by decide), upA_n S hij, setM4 _ F rb hj (S i), upA_upA, upA_s]
def mix5 (s q : Nat → Int32) : Nat → Int32 := fun i => if 54 ≤ i ∧ i < 86 ∧ i % 4 = 0 then q i else s i
theorem spC_m5 (b : Nat) (s q : Nat → Int32) : spC b (mix5 s q) = [.inr (1, [.ref (b + 1), .ref (b + 2), .ref (b + 3), .ref (b + 4), .ref (b + 5), .ref (b + 6), .ref (b + 7), .int (s 0), .int (s 2), .int (s 1), .int (s 3), .int (s 96)]), .inl (0, .inl (rv_tab 10 (fun k => s (4 + k)))), .inl (0, .inl (rv_tab 40 (fun k => s (14 + k)))), .inl (0, .inl (rv_tab 8 (fun k => s (54 + 4 * k + 0)))), .inl (0, .inl (rv_tab 8 (fun k => s (54 + 4 * k + 1)))), .inl (0, .inl (rv_tab 8 (fun k => q (54 + 4 * k + 2)))), .inl (0, .inl (rv_tab 8 (fun k => s (54 + 4 * k + 3)))), .inl (0, .inl (rv_tab 10 (fun k => s (86 + k))))] := by
  have f0 : mix5 s q 0 = s 0 := by simp only [mix5]; grind
  have f2 : mix5 s q 2 = s 2 := by simp only [mix5]; grind
  have f1 : mix5 s q 1 = s 1 := by simp only [mix5]; grind
  have f3 : mix5 s q 3 = s 3 := by simp only [mix5]; grind
  have f96 : mix5 s q 96 = s 96 := by simp only [mix5]; grind
  have a1 : rv_tab 10 (fun k => mix5 s q (4 + k)) = rv_tab 10 (fun k => s (4 + k)) := rv_tab_congr (fun k hk => by simp only [mix5]; grind)
  have a2 : rv_tab 40 (fun k => mix5 s q (14 + k)) = rv_tab 40 (fun k => s (14 + k)) := rv_tab_congr (fun k hk => by simp only [mix5]; grind)
  have a3 : rv_tab 8 (fun k => mix5 s q (54 + 4 * k + 0)) = rv_tab 8 (fun k => s (54 + 4 * k + 0)) := rv_tab_congr (fun k hk => by simp only [mix5]; grind)
  have a4 : rv_tab 8 (fun k => mix5 s q (54 + 4 * k + 1)) = rv_tab 8 (fun k => s (54 + 4 * k + 1)) := rv_tab_congr (fun k hk => by simp only [mix5]; grind)
  have a5 : rv_tab 8 (fun k => mix5 s q (54 + 4 * k + 2)) = rv_tab 8 (fun k => q (54 + 4 * k + 2)) := rv_tab_congr (fun k hk => by simp only [mix5]; grind)
  have a6 : rv_tab 8 (fun k => mix5 s q (54 + 4 * k + 3)) = rv_tab 8 (fun k => s (54 + 4 * k + 3)) := rv_tab_congr (fun k hk => by simp only [mix5]; grind)
  have a7 : rv_tab 10 (fun k => mix5 s q (86 + k)) = rv_tab 10 (fun k => s (86 + k)) := rv_tab_congr (fun k hk => by simp only [mix5]; grind)
  unfold spC
  rw [f0, f2, f1, f3, f96, a1, a2, a3, a4, a5, a6, a7]
theorem setM5 (S F : Nat → Nat → Int32) (rb : Nat) {j : Nat} (hj : j < 3) (q : Nat → Int32) : (mC S F rb).set (sa j 5) (.inl (0, .inl (rv_tab 8 (fun k => q (54 + 4 * k + 2))))) = mC (upA S j (mix5 (S j) q)) F rb := by
  refine lt3 (P := fun j => (mC S F rb).set (sa j 5) (.inl (0, .inl (rv_tab 8 (fun k => q (54 + 4 * k + 2))))) = mC (upA S j (mix5 (S j) q)) F rb) ?_ ?_ ?_ hj
  · show _ = _ :: (spC 1 (mix5 (S 0) q) ++ (spC 9 (S 1) ++ (spC 17 (S 2) ++ _)))
    rw [spC_m5 1 (S 0) q]
    rfl
  · show _ = _ :: (spC 1 (S 0) ++ (spC 9 (mix5 (S 1) q) ++ (spC 17 (S 2) ++ _)))
    rw [spC_m5 9 (S 1) q]
    rfl
  · show _ = _ :: (spC 1 (S 0) ++ (spC 9 (S 1) ++ (spC 17 (mix5 (S 2) q) ++ _)))
    rw [spC_m5 17 (S 2) q]
    rfl
theorem getM5 (S F : Nat → Nat → Int32) (rb : Nat) {j : Nat} (hj : j < 3) : (mC S F rb)[sa j 5]? = some (.inl (0, .inl (rv_tab 8 (fun k => S j (54 + 4 * k + 2))))) := lt3 (P := fun j => (mC S F rb)[sa j 5]? = some (.inl (0, .inl (rv_tab 8 (fun k => S j (54 + 4 * k + 2)))))) rfl rfl rfl hj
theorem cpyR5 (S : Nat → Nat → Int32) {i j : Nat} (hi : i < 3) (hj : j < 3) (hij : ¬ i = j) (s : Nat → Int32) (F : Nat → Nat → Int32) (rb : Nat) : rv_cpy (cR S j s F rb) (sa i 5) 0 (sa j 5) 0 8 = some (cR S j (mix5 s (S i)) F rb) := by
  unfold cR
  rw [show (8 : Int32) = nI 8 from rfl, cpy_at (getM5 _ F rb hi) (getM5 _ F rb hj) (by decide), upA_n S hij, setM5 _ F rb hj (S i), upA_upA, upA_s]
def mix6 (s q : Nat → Int32) : Nat → Int32 := fun i => if 54 ≤ i ∧ i < 86 ∧ i % 4 = 1 then q i else s i
theorem spC_m6 (b : Nat) (s q : Nat → Int32) : spC b (mix6 s q) = [.inr (1, [.ref (b + 1), .ref (b + 2), .ref (b + 3), .ref (b + 4), .ref (b + 5), .ref (b + 6), .ref (b + 7), .int (s 0), .int (s 2), .int (s 1), .int (s 3), .int (s 96)]), .inl (0, .inl (rv_tab 10 (fun k => s (4 + k)))), .inl (0, .inl (rv_tab 40 (fun k => s (14 + k)))), .inl (0, .inl (rv_tab 8 (fun k => s (54 + 4 * k + 0)))), .inl (0, .inl (rv_tab 8 (fun k => s (54 + 4 * k + 1)))), .inl (0, .inl (rv_tab 8 (fun k => s (54 + 4 * k + 2)))), .inl (0, .inl (rv_tab 8 (fun k => q (54 + 4 * k + 3)))), .inl (0, .inl (rv_tab 10 (fun k => s (86 + k))))] := by
  have f0 : mix6 s q 0 = s 0 := by simp only [mix6]; grind
  have f2 : mix6 s q 2 = s 2 := by simp only [mix6]; grind
  have f1 : mix6 s q 1 = s 1 := by simp only [mix6]; grind
  have f3 : mix6 s q 3 = s 3 := by simp only [mix6]; grind
  have f96 : mix6 s q 96 = s 96 := by simp only [mix6]; grind
  have a1 : rv_tab 10 (fun k => mix6 s q (4 + k)) = rv_tab 10 (fun k => s (4 + k)) := rv_tab_congr (fun k hk => by simp only [mix6]; grind)
  have a2 : rv_tab 40 (fun k => mix6 s q (14 + k)) = rv_tab 40 (fun k => s (14 + k)) := rv_tab_congr (fun k hk => by simp only [mix6]; grind)
  have a3 : rv_tab 8 (fun k => mix6 s q (54 + 4 * k + 0)) = rv_tab 8 (fun k => s (54 + 4 * k + 0)) := rv_tab_congr (fun k hk => by simp only [mix6]; grind)
  have a4 : rv_tab 8 (fun k => mix6 s q (54 + 4 * k + 1)) = rv_tab 8 (fun k => s (54 + 4 * k + 1)) := rv_tab_congr (fun k hk => by simp only [mix6]; grind)
  have a5 : rv_tab 8 (fun k => mix6 s q (54 + 4 * k + 2)) = rv_tab 8 (fun k => s (54 + 4 * k + 2)) := rv_tab_congr (fun k hk => by simp only [mix6]; grind)
  have a6 : rv_tab 8 (fun k => mix6 s q (54 + 4 * k + 3)) = rv_tab 8 (fun k => q (54 + 4 * k + 3)) := rv_tab_congr (fun k hk => by simp only [mix6]; grind)
  have a7 : rv_tab 10 (fun k => mix6 s q (86 + k)) = rv_tab 10 (fun k => s (86 + k)) := rv_tab_congr (fun k hk => by simp only [mix6]; grind)
  unfold spC
  rw [f0, f2, f1, f3, f96, a1, a2, a3, a4, a5, a6, a7]
theorem setM6 (S F : Nat → Nat → Int32) (rb : Nat) {j : Nat} (hj : j < 3) (q : Nat → Int32) : (mC S F rb).set (sa j 6) (.inl (0, .inl (rv_tab 8 (fun k => q (54 + 4 * k + 3))))) = mC (upA S j (mix6 (S j) q)) F rb := by
  refine lt3 (P := fun j => (mC S F rb).set (sa j 6) (.inl (0, .inl (rv_tab 8 (fun k => q (54 + 4 * k + 3))))) = mC (upA S j (mix6 (S j) q)) F rb) ?_ ?_ ?_ hj
  · show _ = _ :: (spC 1 (mix6 (S 0) q) ++ (spC 9 (S 1) ++ (spC 17 (S 2) ++ _)))
    rw [spC_m6 1 (S 0) q]
    rfl
  · show _ = _ :: (spC 1 (S 0) ++ (spC 9 (mix6 (S 1) q) ++ (spC 17 (S 2) ++ _)))
    rw [spC_m6 9 (S 1) q]
    rfl
  · show _ = _ :: (spC 1 (S 0) ++ (spC 9 (S 1) ++ (spC 17 (mix6 (S 2) q) ++ _)))
    rw [spC_m6 17 (S 2) q]
    rfl
theorem getM6 (S F : Nat → Nat → Int32) (rb : Nat) {j : Nat} (hj : j < 3) : (mC S F rb)[sa j 6]? = some (.inl (0, .inl (rv_tab 8 (fun k => S j (54 + 4 * k + 3))))) := lt3 (P := fun j => (mC S F rb)[sa j 6]? = some (.inl (0, .inl (rv_tab 8 (fun k => S j (54 + 4 * k + 3)))))) rfl rfl rfl hj
theorem cpyR6 (S : Nat → Nat → Int32) {i j : Nat} (hi : i < 3) (hj : j < 3) (hij : ¬ i = j) (s : Nat → Int32) (F : Nat → Nat → Int32) (rb : Nat) : rv_cpy (cR S j s F rb) (sa i 6) 0 (sa j 6) 0 8 = some (cR S j (mix6 s (S i)) F rb) := by
  unfold cR
  rw [show (8 : Int32) = nI 8 from rfl, cpy_at (getM6 _ F rb hi) (getM6 _ F rb hj) (by decide), upA_n S hij, setM6 _ F rb hj (S i), upA_upA, upA_s]
def mix7 (s q : Nat → Int32) : Nat → Int32 := fun i => if 86 ≤ i ∧ i < 96 then q i else s i
theorem spC_m7 (b : Nat) (s q : Nat → Int32) : spC b (mix7 s q) = [.inr (1, [.ref (b + 1), .ref (b + 2), .ref (b + 3), .ref (b + 4), .ref (b + 5), .ref (b + 6), .ref (b + 7), .int (s 0), .int (s 2), .int (s 1), .int (s 3), .int (s 96)]), .inl (0, .inl (rv_tab 10 (fun k => s (4 + k)))), .inl (0, .inl (rv_tab 40 (fun k => s (14 + k)))), .inl (0, .inl (rv_tab 8 (fun k => s (54 + 4 * k + 0)))), .inl (0, .inl (rv_tab 8 (fun k => s (54 + 4 * k + 1)))), .inl (0, .inl (rv_tab 8 (fun k => s (54 + 4 * k + 2)))), .inl (0, .inl (rv_tab 8 (fun k => s (54 + 4 * k + 3)))), .inl (0, .inl (rv_tab 10 (fun k => q (86 + k))))] := by
  have f0 : mix7 s q 0 = s 0 := by simp only [mix7]; grind
  have f2 : mix7 s q 2 = s 2 := by simp only [mix7]; grind
  have f1 : mix7 s q 1 = s 1 := by simp only [mix7]; grind
  have f3 : mix7 s q 3 = s 3 := by simp only [mix7]; grind
  have f96 : mix7 s q 96 = s 96 := by simp only [mix7]; grind
  have a1 : rv_tab 10 (fun k => mix7 s q (4 + k)) = rv_tab 10 (fun k => s (4 + k)) := rv_tab_congr (fun k hk => by simp only [mix7]; grind)
  have a2 : rv_tab 40 (fun k => mix7 s q (14 + k)) = rv_tab 40 (fun k => s (14 + k)) := rv_tab_congr (fun k hk => by simp only [mix7]; grind)
  have a3 : rv_tab 8 (fun k => mix7 s q (54 + 4 * k + 0)) = rv_tab 8 (fun k => s (54 + 4 * k + 0)) := rv_tab_congr (fun k hk => by simp only [mix7]; grind)
  have a4 : rv_tab 8 (fun k => mix7 s q (54 + 4 * k + 1)) = rv_tab 8 (fun k => s (54 + 4 * k + 1)) := rv_tab_congr (fun k hk => by simp only [mix7]; grind)
  have a5 : rv_tab 8 (fun k => mix7 s q (54 + 4 * k + 2)) = rv_tab 8 (fun k => s (54 + 4 * k + 2)) := rv_tab_congr (fun k hk => by simp only [mix7]; grind)
  have a6 : rv_tab 8 (fun k => mix7 s q (54 + 4 * k + 3)) = rv_tab 8 (fun k => s (54 + 4 * k + 3)) := rv_tab_congr (fun k hk => by simp only [mix7]; grind)
  have a7 : rv_tab 10 (fun k => mix7 s q (86 + k)) = rv_tab 10 (fun k => q (86 + k)) := rv_tab_congr (fun k hk => by simp only [mix7]; grind)
  unfold spC
  rw [f0, f2, f1, f3, f96, a1, a2, a3, a4, a5, a6, a7]
theorem setM7 (S F : Nat → Nat → Int32) (rb : Nat) {j : Nat} (hj : j < 3) (q : Nat → Int32) : (mC S F rb).set (sa j 7) (.inl (0, .inl (rv_tab 10 (fun k => q (86 + k))))) = mC (upA S j (mix7 (S j) q)) F rb := by
  refine lt3 (P := fun j => (mC S F rb).set (sa j 7) (.inl (0, .inl (rv_tab 10 (fun k => q (86 + k))))) = mC (upA S j (mix7 (S j) q)) F rb) ?_ ?_ ?_ hj
  · show _ = _ :: (spC 1 (mix7 (S 0) q) ++ (spC 9 (S 1) ++ (spC 17 (S 2) ++ _)))
    rw [spC_m7 1 (S 0) q]
    rfl
  · show _ = _ :: (spC 1 (S 0) ++ (spC 9 (mix7 (S 1) q) ++ (spC 17 (S 2) ++ _)))
    rw [spC_m7 9 (S 1) q]
    rfl
  · show _ = _ :: (spC 1 (S 0) ++ (spC 9 (S 1) ++ (spC 17 (mix7 (S 2) q) ++ _)))
    rw [spC_m7 17 (S 2) q]
    rfl
theorem getM7 (S F : Nat → Nat → Int32) (rb : Nat) {j : Nat} (hj : j < 3) : (mC S F rb)[sa j 7]? = some (.inl (0, .inl (rv_tab 10 (fun k => S j (86 + k))))) := lt3 (P := fun j => (mC S F rb)[sa j 7]? = some (.inl (0, .inl (rv_tab 10 (fun k => S j (86 + k)))))) rfl rfl rfl hj
theorem cpyR7 (S : Nat → Nat → Int32) {i j : Nat} (hi : i < 3) (hj : j < 3) (hij : ¬ i = j) (s : Nat → Int32) (F : Nat → Nat → Int32) (rb : Nat) : rv_cpy (cR S j s F rb) (sa i 7) 0 (sa j 7) 0 10 = some (cR S j (mix7 s (S i)) F rb) := by
  unfold cR
  rw [show (10 : Int32) = nI 10 from rfl, cpy_at (getM7 _ F rb hi) (getM7 _ F rb hj) (by decide), upA_n S hij, setM7 _ F rb hj (S i), upA_upA, upA_s]
theorem cg_n1 (S : Nat → Nat → Int32) {i : Nat} (j : Nat) (hi : i < 3) (s : Nat → Int32) (F : Nat → Nat → Int32) (rb : Nat) : rv_ldFR (cR S j s F rb) (sp i) 1 0 = some (sa i 1) := lfS1 _ F rb hi
theorem cg_n2 (S : Nat → Nat → Int32) {i : Nat} (j : Nat) (hi : i < 3) (s : Nat → Int32) (F : Nat → Nat → Int32) (rb : Nat) : rv_ldFR (cR S j s F rb) (sp i) 1 1 = some (sa i 2) := lfS2 _ F rb hi
theorem cg_n3 (S : Nat → Nat → Int32) {i : Nat} (j : Nat) (hi : i < 3) (s : Nat → Int32) (F : Nat → Nat → Int32) (rb : Nat) : rv_ldFR (cR S j s F rb) (sp i) 1 2 = some (sa i 3) := lfS3 _ F rb hi
theorem cg_n4 (S : Nat → Nat → Int32) {i : Nat} (j : Nat) (hi : i < 3) (s : Nat → Int32) (F : Nat → Nat → Int32) (rb : Nat) : rv_ldFR (cR S j s F rb) (sp i) 1 3 = some (sa i 4) := lfS4 _ F rb hi
theorem cg_n5 (S : Nat → Nat → Int32) {i : Nat} (j : Nat) (hi : i < 3) (s : Nat → Int32) (F : Nat → Nat → Int32) (rb : Nat) : rv_ldFR (cR S j s F rb) (sp i) 1 4 = some (sa i 5) := lfS5 _ F rb hi
theorem cg_n6 (S : Nat → Nat → Int32) {i : Nat} (j : Nat) (hi : i < 3) (s : Nat → Int32) (F : Nat → Nat → Int32) (rb : Nat) : rv_ldFR (cR S j s F rb) (sp i) 1 5 = some (sa i 6) := lfS6 _ F rb hi
theorem cg_n7 (S : Nat → Nat → Int32) {i : Nat} (j : Nat) (hi : i < 3) (s : Nat → Int32) (F : Nat → Nat → Int32) (rb : Nat) : rv_ldFR (cR S j s F rb) (sp i) 1 6 = some (sa i 7) := lfS7 _ F rb hi
theorem ci_n7 (S : Nat → Nat → Int32) {i j : Nat} (hi : i < 3) (hij : ¬ i = j) (s : Nat → Int32) (F : Nat → Nat → Int32) (rb : Nat) : rv_ldFI (cR S j s F rb) (sp i) 1 7 = some (S i 0) := by
  unfold cR
  rw [lgS7 _ F rb hi, upA_n S hij]
theorem ci_n8 (S : Nat → Nat → Int32) {i j : Nat} (hi : i < 3) (hij : ¬ i = j) (s : Nat → Int32) (F : Nat → Nat → Int32) (rb : Nat) : rv_ldFI (cR S j s F rb) (sp i) 1 8 = some (S i 2) := by
  unfold cR
  rw [lgS8 _ F rb hi, upA_n S hij]
theorem ci_n9 (S : Nat → Nat → Int32) {i j : Nat} (hi : i < 3) (hij : ¬ i = j) (s : Nat → Int32) (F : Nat → Nat → Int32) (rb : Nat) : rv_ldFI (cR S j s F rb) (sp i) 1 9 = some (S i 1) := by
  unfold cR
  rw [lgS9 _ F rb hi, upA_n S hij]
theorem ci_n10 (S : Nat → Nat → Int32) {i j : Nat} (hi : i < 3) (hij : ¬ i = j) (s : Nat → Int32) (F : Nat → Nat → Int32) (rb : Nat) : rv_ldFI (cR S j s F rb) (sp i) 1 10 = some (S i 3) := by
  unfold cR
  rw [lgS10 _ F rb hi, upA_n S hij]
theorem ci_n11 (S : Nat → Nat → Int32) {i j : Nat} (hi : i < 3) (hij : ¬ i = j) (s : Nat → Int32) (F : Nat → Nat → Int32) (rb : Nat) : rv_ldFI (cR S j s F rb) (sp i) 1 11 = some (S i 96) := by
  unfold cR
  rw [lgS11 _ F rb hi, upA_n S hij]
theorem k_take (S : Nat → Nat → Int32) {i j : Nat} (hi : i < 3) (hj : j < 3) (hij : ¬ i = j) (F : Nat → Nat → Int32) (rb : Nat) : rv_EV 9 [.ref (sp j), .ref (sp i)] (mC S F rb) = some (none, cR S j (S i) F rb) := by
  rw [← cR_self S j F rb, ev_X2_take _ _ _ (co S hj _ F rb)]
  simp only [Option.bind_some, cg_n1 S j hi, cg_n1 S j hj, cpyR1 S hi hj hij, cg_n2 S j hi, cg_n2 S j hj, cpyR2 S hi hj hij, cg_n3 S j hi, cg_n3 S j hj, cpyR3 S hi hj hij, cg_n4 S j hi, cg_n4 S j hj, cpyR4 S hi hj hij, cg_n5 S j hi, cg_n5 S j hj, cpyR5 S hi hj hij, cg_n6 S j hi, cg_n6 S j hj, cpyR6 S hi hj hij, cg_n7 S j hi, cg_n7 S j hj, cpyR7 S hi hj hij, ci_n7 S hi hij, ch7 S hj, ci_n8 S hi hij, ch8 S hj, ci_n9 S hi hij, ch9 S hj, ci_n10 S hi hij, ch10 S hj, ci_n11 S hi hij, ch11 S hj]
  refine congrArg (fun w => some (none, w)) (cR_congr S j F rb fun k hk => ?_)
  simp only [mix1, mix2, mix3, mix4, mix5, mix6, mix7, upd]
  grind (splits := 30)
