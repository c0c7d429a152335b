/-! WHICH KIND'S WORD IS AT HAND -/
theorem r_kd_6 {n k a e : Nat} {A : Nat → Nat → Int32} {r : Nat → Int32} {F : Nat → Nat → Int32} (Z : TS n A k a e r F) (s : Nat → Int32) (g : WD A n k a e 6) : rv_EV 185 [.ref 0] (mR A s r) = some (some (.int 0), mR A s r) := by
  rw [ev_X5_kindHere _ _ (obR A s r), r_batherW Z s, wdI_y g]
  simp only [cb_eq, cb_ne, cb_lt, cb_ge, cb_gt, cb_le, cb_q, cb_qL, ri_s2, rl_s, rr_s, rv_s, bd_s, i10, cond_true, cond_false, i10_n, if_false]
theorem r_kd_0i {n k a e : Nat} {A : Nat → Nat → Int32} {r : Nat → Int32} {F : Nat → Nat → Int32} (Z : TS n A k a e r F) (s : Nat → Int32) (g6 : ¬ WD A n k a e 6) : rv_EV 185 [.ref 0] (mR A s r) = if (k = 1 ∧ e = a + 7) ∧ (bt A n (a + 0) = 100 ∧ bt A n (a + 0 + 1) = 117 ∧ bt A n (a + 0 + 2) = 99) ∧ (bt A n (a + 3) = 104 ∧ bt A n (a + 3 + 1) = 101 ∧ bt A n (a + 3 + 2) = 115) ∧ (bt A n (a + 4) = 101 ∧ bt A n (a + 4 + 1) = 115 ∧ bt A n (a + 4 + 2) = 115) then some (some (.int 1), mR A s r) else rv_GO rc_X5_kindHere 74 [some (.ref 0)] [] (mR A s r) := by
  have w : rv_EV 179 [.ref 0, .int 7] (mR A s r) = some (some (.int (if k = 1 ∧ e = a + 7 then 1 else 0)), mR A s r) := r_isWord Z.1.1 Z.2.2.2 (l := 7) (by decide)
  have t0 : rv_EV 178 [.ref 0, .int 0, .int 100, .int 117, .int 99] (mR A s r) = _ := r_has3 Z.1.1 Z.2.1 Z.2.2.2 (i := 0) (by decide) 100 117 99
  have t3 : rv_EV 178 [.ref 0, .int 3, .int 104, .int 101, .int 115] (mR A s r) = _ := r_has3 Z.1.1 Z.2.1 Z.2.2.2 (i := 3) (by decide) 104 101 115
  have t4 : rv_EV 178 [.ref 0, .int 4, .int 101, .int 115, .int 115] (mR A s r) = _ := r_has3 Z.1.1 Z.2.1 Z.2.2.2 (i := 4) (by decide) 101 115 115
  rw [ev_X5_kindHere _ _ (obR A s r), r_batherW Z s, wdI_n g6]
  simp only [cb_eq, cb_ne, cb_lt, cb_ge, cb_gt, cb_le, cb_q, cb_qL, ri_s2, rl_s, rr_s, rv_s, bd_s, i10, cond_true, cond_false, if_true, w, t0, t3, t4]
  rw [ifc4]
theorem r_kd_0 {n k a e : Nat} {A : Nat → Nat → Int32} {r : Nat → Int32} {F : Nat → Nat → Int32} (Z : TS n A k a e r F) (s : Nat → Int32) (g6 : ¬ WD A n k a e 6) (g : WD A n k a e 0) : rv_EV 185 [.ref 0] (mR A s r) = some (some (.int 1), mR A s r) := by
  obtain ⟨w, b0, b1, b2, b3, b4, b5, b6⟩ := WD_0.mp g
  rw [r_kd_0i Z s g6, if_pos ⟨w, ⟨b0, b1, b2⟩, ⟨b3, b4, b5⟩, ⟨b4, b5, b6⟩⟩]
theorem r_kd_0n {n k a e : Nat} {A : Nat → Nat → Int32} {r : Nat → Int32} {F : Nat → Nat → Int32} (Z : TS n A k a e r F) (s : Nat → Int32) (g6 : ¬ WD A n k a e 6) (g : ¬ WD A n k a e 0) : rv_EV 185 [.ref 0] (mR A s r) = rv_GO rc_X5_kindHere 74 [some (.ref 0)] [] (mR A s r) := by
  rw [r_kd_0i Z s g6, if_neg (fun f => g (WD_0.mpr ⟨f.1, f.2.1.1, f.2.1.2.1, f.2.1.2.2, f.2.2.1.1, f.2.2.1.2.1, f.2.2.1.2.2, f.2.2.2.2.2⟩))]
theorem r_kd_1 {n k a e : Nat} {A : Nat → Nat → Int32} {r : Nat → Int32} {F : Nat → Nat → Int32} (Z : TS n A k a e r F) (s : Nat → Int32) (g : WD A n k a e 1) : rv_GO rc_X5_kindHere 74 [some (.ref 0)] [] (mR A s r) = some (some (.int 2), mR A s r) := by
  rw [bk_X5_kindHere_74, r_clerkW Z s, wdI_y g]
  simp only [cb_eq, cb_ne, cb_lt, cb_ge, cb_gt, cb_le, cb_q, cb_qL, ri_s2, rl_s, rr_s, rv_s, bd_s, i10, cond_true, cond_false, i10_n, if_false]
theorem r_kd_2i {n k a e : Nat} {A : Nat → Nat → Int32} {r : Nat → Int32} {F : Nat → Nat → Int32} (Z : TS n A k a e r F) (s : Nat → Int32) (g1 : ¬ WD A n k a e 1) : rv_GO rc_X5_kindHere 74 [some (.ref 0)] [] (mR A s r) = if (k = 1 ∧ e = a + 3) ∧ (bt A n (a + 0) = 115 ∧ bt A n (a + 0 + 1) = 112 ∧ bt A n (a + 0 + 2) = 121) then some (some (.int 3), mR A s r) else rv_GO rc_X5_kindHere 117 [some (.ref 0)] [] (mR A s r) := by
  have w : rv_EV 179 [.ref 0, .int 3] (mR A s r) = some (some (.int (if k = 1 ∧ e = a + 3 then 1 else 0)), mR A s r) := r_isWord Z.1.1 Z.2.2.2 (l := 3) (by decide)
  have t0 : rv_EV 178 [.ref 0, .int 0, .int 115, .int 112, .int 121] (mR A s r) = _ := r_has3 Z.1.1 Z.2.1 Z.2.2.2 (i := 0) (by decide) 115 112 121
  rw [bk_X5_kindHere_74, r_clerkW Z s, wdI_n g1]
  simp only [cb_eq, cb_ne, cb_lt, cb_ge, cb_gt, cb_le, cb_q, cb_qL, ri_s2, rl_s, rr_s, rv_s, bd_s, i10, cond_true, cond_false, if_true, w, t0]
  rw [ifc2]
theorem r_kd_2 {n k a e : Nat} {A : Nat → Nat → Int32} {r : Nat → Int32} {F : Nat → Nat → Int32} (Z : TS n A k a e r F) (s : Nat → Int32) (g1 : ¬ WD A n k a e 1) (g : WD A n k a e 2) : rv_GO rc_X5_kindHere 74 [some (.ref 0)] [] (mR A s r) = some (some (.int 3), mR A s r) := by
  obtain ⟨w, b0, b1, b2⟩ := WD_2.mp g
  rw [r_kd_2i Z s g1, if_pos ⟨w, ⟨b0, b1, b2⟩⟩]
theorem r_kd_2n {n k a e : Nat} {A : Nat → Nat → Int32} {r : Nat → Int32} {F : Nat → Nat → Int32} (Z : TS n A k a e r F) (s : Nat → Int32) (g1 : ¬ WD A n k a e 1) (g : ¬ WD A n k a e 2) : rv_GO rc_X5_kindHere 74 [some (.ref 0)] [] (mR A s r) = rv_GO rc_X5_kindHere 117 [some (.ref 0)] [] (mR A s r) := by
  rw [r_kd_2i Z s g1, if_neg (fun f => g (WD_2.mpr ⟨f.1, f.2.1, f.2.2.1, f.2.2.2⟩))]
theorem r_kd_3i {n k a e : Nat} {A : Nat → Nat → Int32} {r : Nat → Int32} {F : Nat → Nat → Int32} (Z : TS n A k a e r F) (s : Nat → Int32) : rv_GO rc_X5_kindHere 117 [some (.ref 0)] [] (mR A s r) = if (k = 1 ∧ e = a + 11) ∧ (bt A n (a + 0) = 108 ∧ bt A n (a + 0 + 1) = 97 ∧ bt A n (a + 0 + 2) = 109) ∧ (bt A n (a + 3) = 112 ∧ bt A n (a + 3 + 1) = 108 ∧ bt A n (a + 3 + 2) = 105) ∧ (bt A n (a + 6) = 103 ∧ bt A n (a + 6 + 1) = 104 ∧ bt A n (a + 6 + 2) = 116) ∧ (bt A n (a + 8) = 116 ∧ bt A n (a + 8 + 1) = 101 ∧ bt A n (a + 8 + 2) = 114) then some (some (.int 4), mR A s r) else rv_GO rc_X5_kindHere 186 [some (.ref 0)] [] (mR A s r) := by
  have w : rv_EV 179 [.ref 0, .int 11] (mR A s r) = some (some (.int (if k = 1 ∧ e = a + 11 then 1 else 0)), mR A s r) := r_isWord Z.1.1 Z.2.2.2 (l := 11) (by decide)
  have t0 : rv_EV 178 [.ref 0, .int 0, .int 108, .int 97, .int 109] (mR A s r) = _ := r_has3 Z.1.1 Z.2.1 Z.2.2.2 (i := 0) (by decide) 108 97 109
  have t3 : rv_EV 178 [.ref 0, .int 3, .int 112, .int 108, .int 105] (mR A s r) = _ := r_has3 Z.1.1 Z.2.1 Z.2.2.2 (i := 3) (by decide) 112 108 105
  have t6 : rv_EV 178 [.ref 0, .int 6, .int 103, .int 104, .int 116] (mR A s r) = _ := r_has3 Z.1.1 Z.2.1 Z.2.2.2 (i := 6) (by decide) 103 104 116
  have t8 : rv_EV 178 [.ref 0, .int 8, .int 116, .int 101, .int 114] (mR A s r) = _ := r_has3 Z.1.1 Z.2.1 Z.2.2.2 (i := 8) (by decide) 116 101 114
  rw [bk_X5_kindHere_117]
  simp only [cb_eq, cb_ne, cb_lt, cb_ge, cb_gt, cb_le, cb_q, cb_qL, ri_s2, rl_s, rr_s, rv_s, bd_s, i10, cond_true, cond_false, w, t0, t3, t6, t8]
  rw [ifc5]
theorem r_kd_3 {n k a e : Nat} {A : Nat → Nat → Int32} {r : Nat → Int32} {F : Nat → Nat → Int32} (Z : TS n A k a e r F) (s : Nat → Int32) (g : WD A n k a e 3) : rv_GO rc_X5_kindHere 117 [some (.ref 0)] [] (mR A s r) = some (some (.int 4), mR A s r) := by
  obtain ⟨w, b0, b1, b2, b3, b4, b5, b6, b7, b8, b9, b10⟩ := WD_3.mp g
  rw [r_kd_3i Z s, if_pos ⟨w, ⟨b0, b1, b2⟩, ⟨b3, b4, b5⟩, ⟨b6, b7, b8⟩, ⟨b8, b9, b10⟩⟩]
theorem r_kd_3n {n k a e : Nat} {A : Nat → Nat → Int32} {r : Nat → Int32} {F : Nat → Nat → Int32} (Z : TS n A k a e r F) (s : Nat → Int32) (g : ¬ WD A n k a e 3) : rv_GO rc_X5_kindHere 117 [some (.ref 0)] [] (mR A s r) = rv_GO rc_X5_kindHere 186 [some (.ref 0)] [] (mR A s r) := by
  rw [r_kd_3i Z s, if_neg (fun f => g (WD_3.mpr ⟨f.1, f.2.1.1, f.2.1.2.1, f.2.1.2.2, f.2.2.1.1, f.2.2.1.2.1, f.2.2.1.2.2, f.2.2.2.1.1, f.2.2.2.1.2.1, f.2.2.2.1.2.2, f.2.2.2.2.2.1, f.2.2.2.2.2.2⟩))]
theorem r_kd_4i {n k a e : Nat} {A : Nat → Nat → Int32} {r : Nat → Int32} {F : Nat → Nat → Int32} (Z : TS n A k a e r F) (s : Nat → Int32) : rv_GO rc_X5_kindHere 186 [some (.ref 0)] [] (mR A s r) = if (k = 1 ∧ e = a + 3) ∧ (bt A n (a + 0) = 115 ∧ bt A n (a + 0 + 1) = 97 ∧ bt A n (a + 0 + 2) = 100) then some (some (.int 5), mR A s r) else rv_GO rc_X5_kindHere 210 [some (.ref 0)] [] (mR A s r) := by
  have w : rv_EV 179 [.ref 0, .int 3] (mR A s r) = some (some (.int (if k = 1 ∧ e = a + 3 then 1 else 0)), mR A s r) := r_isWord Z.1.1 Z.2.2.2 (l := 3) (by decide)
  have t0 : rv_EV 178 [.ref 0, .int 0, .int 115, .int 97, .int 100] (mR A s r) = _ := r_has3 Z.1.1 Z.2.1 Z.2.2.2 (i := 0) (by decide) 115 97 100
  rw [bk_X5_kindHere_186]
  simp only [cb_eq, cb_ne, cb_lt, cb_ge, cb_gt, cb_le, cb_q, cb_qL, ri_s2, rl_s, rr_s, rv_s, bd_s, i10, cond_true, cond_false, w, t0]
  rw [ifc2]
theorem r_kd_4 {n k a e : Nat} {A : Nat → Nat → Int32} {r : Nat → Int32} {F : Nat → Nat → Int32} (Z : TS n A k a e r F) (s : Nat → Int32) (g : WD A n k a e 4) : rv_GO rc_X5_kindHere 186 [some (.ref 0)] [] (mR A s r) = some (some (.int 5), mR A s r) := by
  obtain ⟨w, b0, b1, b2⟩ := WD_4.mp g
  rw [r_kd_4i Z s, if_pos ⟨w, ⟨b0, b1, b2⟩⟩]
theorem r_kd_4n {n k a e : Nat} {A : Nat → Nat → Int32} {r : Nat → Int32} {F : Nat → Nat → Int32} (Z : TS n A k a e r F) (s : Nat → Int32) (g : ¬ WD A n k a e 4) : rv_GO rc_X5_kindHere 186 [some (.ref 0)] [] (mR A s r) = rv_GO rc_X5_kindHere 210 [some (.ref 0)] [] (mR A s r) := by
  rw [r_kd_4i Z s, if_neg (fun f => g (WD_4.mpr ⟨f.1, f.2.1, f.2.2.1, f.2.2.2⟩))]
theorem r_kd_5 {n k a e : Nat} {A : Nat → Nat → Int32} {r : Nat → Int32} {F : Nat → Nat → Int32} (Z : TS n A k a e r F) (s : Nat → Int32) (g : WD A n k a e 5) : rv_GO rc_X5_kindHere 210 [some (.ref 0)] [] (mR A s r) = some (some (.int 6), mR A s r) := by
  rw [bk_X5_kindHere_210, r_consulW Z s, wdI_y g]
  simp only [cb_eq, cb_ne, cb_lt, cb_ge, cb_gt, cb_le, cb_q, cb_qL, ri_s2, rl_s, rr_s, rv_s, bd_s, i10, cond_true, cond_false, i10_n, if_false]
theorem r_kd_5n {n k a e : Nat} {A : Nat → Nat → Int32} {r : Nat → Int32} {F : Nat → Nat → Int32} (Z : TS n A k a e r F) (s : Nat → Int32) (g : ¬ WD A n k a e 5) : rv_GO rc_X5_kindHere 210 [some (.ref 0)] [] (mR A s r) = some (some (.int (-1)), mR A s r) := by
  rw [bk_X5_kindHere_210, r_consulW Z s, wdI_n g]
  simp only [cb_eq, cb_ne, cb_lt, cb_ge, cb_gt, cb_le, cb_q, cb_qL, ri_s2, rl_s, rr_s, rv_s, bd_s, i10, cond_true, cond_false, if_true]
def kdW : Nat → Nat
  | 0 => 6
  | j + 1 => j
theorem c_kw {j : Nat} (hj : j < 7) (w : rv_W) : rv_EV 43 [.int (nI j)] w = some (some (.ref (1000 + kdW j)), w) := by
  have hj' : j < 1000 := by omega
  rw [ev_X3_kindWord]
  simp only [cb_q, sw1 hj', sw2 hj', sw3 hj', sw4 hj', sw5 hj', sw6 hj']
  rcases (show j = 0 ∨ j = 1 ∨ j = 2 ∨ j = 3 ∨ j = 4 ∨ j = 5 ∨ j = 6 by omega) with rfl | rfl | rfl | rfl | rfl | rfl | rfl <;> rfl
theorem kdW_14 {j : Nat} (hj : j < 7) : kdW j < 14 := by
  cases j with
  | zero => decide
  | succ j => show j < 14; omega
theorem c_kd_y {n k a e : Nat} {A : Nat → Nat → Int32} {r : Nat → Int32} {F : Nat → Nat → Int32} (Z : TS n A k a e r F) {j : Nat} (hj : j < 7) (g : WD A n k a e (kdW j)) (S : Nat → Nat → Int32) (s q : Nat → Int32) : rv_GO rc_X3_kindAtHand 2 [some (.ref 35), some (.int (nI j))] [] (cD S s q F 34) = some (some (.int (nI j)), cD S s q F 34) := by
  rw [bk_X3_kindAtHand_2]
  simp only [cb_eq, cb_ne, cb_lt, cb_ge, cb_gt, cb_le, cb_q, cb_qL, ri_s2, rl_s, rr_s, rv_s, bd_s, i10, cond_true, cond_false, show ¬ (7 : Int32) ≤ nI j from nI_ge (a := j) (b := 7) hj (by decide), if_false, c_kw hj, c_atHand Z.1 Z.2.2.1 Z.2.2.2 (kdW_14 hj), wdI_y g, i10_n]
theorem c_kd_n {n k a e : Nat} {A : Nat → Nat → Int32} {r : Nat → Int32} {F : Nat → Nat → Int32} (Z : TS n A k a e r F) {j : Nat} (hj : j < 7) (g : ¬ WD A n k a e (kdW j)) (S : Nat → Nat → Int32) (s q : Nat → Int32) : rv_GO rc_X3_kindAtHand 2 [some (.ref 35), some (.int (nI j))] [] (cD S s q F 34) = rv_GO rc_X3_kindAtHand 2 [some (.ref 35), some (.int (nI (j + 1)))] [] (cD S s q F 34) := by
  rw [bk_X3_kindAtHand_2]
  simp only [cb_eq, cb_ne, cb_lt, cb_ge, cb_gt, cb_le, cb_q, cb_qL, ri_s2, rl_s, rr_s, rv_s, bd_s, i10, cond_true, cond_false, show ¬ (7 : Int32) ≤ nI j from nI_ge (a := j) (b := 7) hj (by decide), if_false, c_kw hj, c_atHand Z.1 Z.2.2.1 Z.2.2.2 (kdW_14 hj), wdI_n g, if_true, nI_1]
theorem c_kd_e (S : Nat → Nat → Int32) (s q : Nat → Int32) (F : Nat → Nat → Int32) : rv_GO rc_X3_kindAtHand 2 [some (.ref 35), some (.int (nI 7))] [] (cD S s q F 34) = some (some (.int (-1)), cD S s q F 34) := by
  rw [bk_X3_kindAtHand_2]
  simp only [cb_eq, cb_ne, cb_lt, cb_ge, cb_gt, cb_le, cb_q, cb_qL, ri_s2, rl_s, rr_s, rv_s, bd_s, i10, cond_true, cond_false, show (7 : Int32) ≤ nI 7 from by decide, if_true]
/-- both see the same kind -/
theorem kd_both {n k a e : Nat} {A : Nat → Nat → Int32} {r : Nat → Int32} {F : Nat → Nat → Int32} (Z : TS n A k a e r F) (p : Nat → Int32) (S : Nat → Nat → Int32) (s q : Nat → Int32) :
    (∃ j, j < 7 ∧ a < e ∧ rv_EV 185 [.ref 0] (mR A p r) = some (some (.int (nI j)), mR A p r) ∧ rv_EV 42 [.ref 35] (cD S s q F 34) = some (some (.int (nI j)), cD S s q F 34))
    ∨ (rv_EV 185 [.ref 0] (mR A p r) = some (some (.int (-1)), mR A p r) ∧ rv_EV 42 [.ref 35] (cD S s q F 34) = some (some (.int (-1)), cD S s q F 34)) := by
  have c0 : rv_EV 42 [.ref 35] (cD S s q F 34) = rv_GO rc_X3_kindAtHand 2 [some (.ref 35), some (.int (nI 0))] [] (cD S s q F 34) := ev_X3_kindAtHand _ _ (obBD S s q F 34)
  by_cases g6 : WD A n k a e 6
  · exact Or.inl ⟨0, by decide, wd_a Z g6, r_kd_6 Z p g6, c0.trans (c_kd_y Z (j := 0) (by decide) g6 S s q)⟩
  have c1 := c0.trans (c_kd_n Z (j := 0) (by decide) g6 S s q)
  by_cases g0 : WD A n k a e 0
  · exact Or.inl ⟨1, by decide, wd_a Z g0, r_kd_0 Z p g6 g0, c1.trans (c_kd_y Z (j := 1) (by decide) g0 S s q)⟩
  have c2 := c1.trans (c_kd_n Z (j := 1) (by decide) g0 S s q)
  have m2 := r_kd_0n Z p g6 g0
  by_cases g1 : WD A n k a e 1
  · exact Or.inl ⟨2, by decide, wd_a Z g1, m2.trans (r_kd_1 Z p g1), c2.trans (c_kd_y Z (j := 2) (by decide) g1 S s q)⟩
  have c3 := c2.trans (c_kd_n Z (j := 2) (by decide) g1 S s q)
  by_cases g2 : WD A n k a e 2
  · exact Or.inl ⟨3, by decide, wd_a Z g2, m2.trans (r_kd_2 Z p g1 g2), c3.trans (c_kd_y Z (j := 3) (by decide) g2 S s q)⟩
  have c4 := c3.trans (c_kd_n Z (j := 3) (by decide) g2 S s q)
  have m4 := m2.trans (r_kd_2n Z p g1 g2)
  by_cases g3 : WD A n k a e 3
  · exact Or.inl ⟨4, by decide, wd_a Z g3, m4.trans (r_kd_3 Z p g3), c4.trans (c_kd_y Z (j := 4) (by decide) g3 S s q)⟩
  have c5 := c4.trans (c_kd_n Z (j := 4) (by decide) g3 S s q)
  have m5 := m4.trans (r_kd_3n Z p g3)
  by_cases g4 : WD A n k a e 4
  · exact Or.inl ⟨5, by decide, wd_a Z g4, m5.trans (r_kd_4 Z p g4), c5.trans (c_kd_y Z (j := 5) (by decide) g4 S s q)⟩
  have c6 := c5.trans (c_kd_n Z (j := 5) (by decide) g4 S s q)
  have m6 := m5.trans (r_kd_4n Z p g4)
  by_cases g5 : WD A n k a e 5
  · exact Or.inl ⟨6, by decide, wd_a Z g5, m6.trans (r_kd_5 Z p g5), c6.trans (c_kd_y Z (j := 6) (by decide) g5 S s q)⟩
  exact Or.inr ⟨m6.trans (r_kd_5n Z p g5), (c6.trans (c_kd_n Z (j := 6) (by decide) g5 S s q)).trans (c_kd_e S s q F)⟩
