/-! THE CLASS: hours of a spa -/
def wOK (s : Nat → Int32) : Prop := 0 ≤ s 2 ∧ ∀ t, t < 10 → 0 ≤ s (4 + t)
theorem nn_max (x : Int32) : 0 ≤ rv_max x 0 := by
  unfold rv_max
  split
  · decide
  · exact Int32.not_lt.mp (by assumption)
theorem wOK_flw {s : Nat → Int32} (h : wOK s) : wOK (flwS s) := by
  refine ⟨by rw [flwS_out s (by omega)]; exact h.1, fun t ht => ?_⟩
  unfold flwS
  by_cases h0 : 4 + t = 4
  · rw [if_pos h0]; exact h.1
  · rw [if_neg h0, if_pos (by omega)]
    exact nn_max (s (4 + t - 1) - 4)
theorem wOK_bat {s : Nat → Int32} {b : Nat} (ok : okB s b) (h : wOK s) : wOK (batS s b) := by
  refine ⟨by rw [batS_out ok (by omega)]; exact h.1, fun t ht => ?_⟩
  obtain ⟨-, ⟨-, t2⟩, -⟩ := ok
  unfold batS
  rw [pk_un (by omega)]
  unfold coldS
  by_cases e : 4 + t = 4 + tbS s b
  · rw [e, pk_us, ← max_cool (h.2 _ t2) (coolS_nn _)]
    exact nn_max _
  · rw [pk_un e]; exact h.2 t ht
theorem wOK_bats {gone : Int32} {s : Nat → Int32} (h : wOK s) : ∀ n, okN s n → wOK (batsS gone s n)
  | 0, _ => h
  | n + 1, ok => by
    have ih := wOK_bats (gone := gone) h n (fun b hb => ok b (by omega))
    have ho := batsS_out (gone := gone) (s := s) n (fun b hb => ok b (by omega))
    rw [batsS]
    split
    · exact wOK_bat ((okB_congr (fun i h1 _ => ho i (by omega))).1 (ok n (by omega))) ih
    · exact ih
theorem wOK_hour {gone : Int32} {s : Nat → Int32} {n : Nat} (hn : n ≤ 8) (hs : s 0 = nI n) (ok : okN s n) (h : wOK s) : wOK (hourS gone s) := by
  have okf : okN (flwS s) n := fun b hb => (okB_congr (fun i h1 _ => flwS_out s (by omega))).1 (ok b hb)
  have hb := wOK_bats (gone := gone) (wOK_flw h) n okf
  unfold hourS
  rw [show (s 0).toNatClampNeg = n by rw [hs]; exact nI_clamp (by omega)]
  refine ⟨?_, fun t ht => ?_⟩
  · rw [pk_un (by omega), knoS_out n 2 (fun _ _ => by omega)]; exact hb.1
  · rw [pk_un (by omega), knoS_out n (4 + t) (fun _ _ => by omega)]; exact hb.2 t ht
theorem k_bat (S : Nat → Nat → Int32) {j : Nat} (hj : j < 3) (s : Nat → Int32) (F : Nat → Nat → Int32) (rb : Nat) {n b : Nat} (hn : n ≤ 8) (hs : s 0 = nI n) (hb : b < n) (ok : okB s b) (hw : wOK s) :
    rv_GO rc_X2_passHour 6 [some (.ref (sp j)), some (.int (nI b))] [] (cR S j s F rb) = rv_GO rc_X2_passHour 6 [some (.ref (sp j)), some (.int (nI (b + 1)))] [] (cR S j (if (s 96 >>> (nI b &&& 31)) &&& 1 = 0 then batS s b else s) F rb) := by
  have t2 := ok.2.1.2
  rw [bk_X2_passHour_6]
  simp only [cb_eq, cb_ne, cb_lt, cb_ge, cb_gt, cb_le, cb_q, cb_qL, ri_s, rl_s, rr_s, rv_s, Option.bind_some, i10, cond_true, cond_false, cg7 S hj, hs, ge0_8 hn hb, if_false, k_isHere S hj s F rb, k_bathe S hj s F rb (show b < 8 by omega) ok (hw.2 _ t2), nI_1]
  by_cases h : (s 96 >>> (nI b &&& 31)) &&& 1 = 0
  · simp only [h, if_true, not_true_eq_false, if_false]
  · simp only [h, if_false, not_false_eq_true, if_true]
theorem k_bats (S : Nat → Nat → Int32) {j : Nat} (hj : j < 3) (s : Nat → Int32) (F : Nat → Nat → Int32) (rb : Nat) {n : Nat} (hn : n ≤ 8) (hs : s 0 = nI n) (ok : okN s n) (hw : wOK s) : ∀ b, b ≤ n →
    rv_GO rc_X2_passHour 6 [some (.ref (sp j)), some (.int 0)] [] (cR S j s F rb) = rv_GO rc_X2_passHour 6 [some (.ref (sp j)), some (.int (nI b))] [] (cR S j (batsS (s 96) s b) F rb) := by
  intro b
  induction b with
  | zero => intro _; rfl
  | succ b ih =>
    intro hb
    have ho := batsS_out (gone := s 96) (s := s) b (fun c hc => ok c (by omega))
    rw [ih (by omega), k_bat S hj (batsS (s 96) s b) F rb hn (by rw [ho 0 (by omega)]; exact hs) (by omega) ((okB_congr (fun i h1 _ => ho i (by omega))).1 (ok b (by omega))) (wOK_bats hw b (fun c hc => ok c (by omega))), ho 96 (by omega)]
    rfl
theorem k_kno (S : Nat → Nat → Int32) {j : Nat} (hj : j < 3) (s : Nat → Int32) (F : Nat → Nat → Int32) (rb : Nat) {n b : Nat} (hn : n ≤ 8) (hs : s 0 = nI n) (hb : b < n) (ok : okB s b) :
    rv_GO rc_X2_passHour 35 [some (.ref (sp j)), some (.int (nI b))] [] (cR S j s F rb) = rv_GO rc_X2_passHour 35 [some (.ref (sp j)), some (.int (nI (b + 1)))] [] (cR S j (if (s 96 >>> (nI b &&& 31)) &&& 1 = 0 then upd s (54 + 4 * b + 3) (s (54 + 4 * b + 3) ||| smlS s b 4) else s) F rb) := by
  have hb8 : b < 8 := by omega
  rw [bk_X2_passHour_35]
  simp only [cb_eq, cb_ne, cb_lt, cb_ge, cb_gt, cb_le, cb_q, cb_qL, ri_s, rl_s, rr_s, rv_s, Option.bind_some, i10, cond_true, cond_false, cg7 S hj, hs, ge0_8 hn hb, if_false, k_isHere S hj s F rb, nI_1, cf6 S hj, cl6 S hj s F rb hb8, k_smelledBy S hj s F rb hb8 ok, ct6 S hj s F rb hb8]
  by_cases h : (s 96 >>> (nI b &&& 31)) &&& 1 = 0
  · simp only [h, if_true, not_true_eq_false, if_false]
  · simp only [h, if_false, not_false_eq_true, if_true]
theorem k_knos (S : Nat → Nat → Int32) {j : Nat} (hj : j < 3) (s : Nat → Int32) (F : Nat → Nat → Int32) (rb : Nat) {n : Nat} (hn : n ≤ 8) (hs : s 0 = nI n) (ok : okN s n) : ∀ b, b ≤ n →
    rv_GO rc_X2_passHour 35 [some (.ref (sp j)), some (.int 0)] [] (cR S j s F rb) = rv_GO rc_X2_passHour 35 [some (.ref (sp j)), some (.int (nI b))] [] (cR S j (knoS (s 96) s b) F rb) := by
  intro b
  induction b with
  | zero => intro _; rfl
  | succ b ih =>
    intro hb
    rw [ih (by omega), k_kno S hj (knoS (s 96) s b) F rb hn (by rw [knoS_out b 0 (fun _ _ => by omega)]; exact hs) (by omega) (knoS_ok (ok b (by omega))), knoS_out b 96 (fun _ _ => by omega)]
    rfl
theorem min_hour {x : Int32} (h : x ≤ 99999) : rv_min x 99999 = x := by
  unfold rv_min
  by_cases e : 99999 < x
  · exact absurd e (Int32.not_lt.mpr h)
  · rw [if_neg e]
theorem k_passHour (S : Nat → Nat → Int32) {j : Nat} (hj : j < 3) (s : Nat → Int32) (F : Nat → Nat → Int32) (rb : Nat) {n : Nat} (hn : n ≤ 8) (hs : s 0 = nI n) (ok : okN s n) (hw : wOK s) (hh : s 1 + 1 ≤ 99999) : rv_EV 21 [.ref (sp j)] (cR S j s F rb) = some (none, cR S j (hourS (s 96) s) F rb) := by
  have okf : okN (flwS s) n := fun b hb => (okB_congr (fun i h1 _ => flwS_out s (by omega))).1 (ok b hb)
  have hb := batsS_out (gone := s 96) (s := flwS s) n okf
  have okb : okN (batsS (s 96) (flwS s) n) n := fun b hb' => (okB_congr (fun i h1 _ => hb i (by omega))).1 (okf b hb')
  have g1 : flwS s 96 = s 96 := flwS_out s (by omega)
  have hs1 : flwS s 0 = nI n := by rw [flwS_out s (by omega)]; exact hs
  have hs2 : batsS (s 96) (flwS s) n 0 = nI n := by rw [hb 0 (by omega)]; exact hs1
  have g2 : batsS (s 96) (flwS s) n 96 = s 96 := by rw [hb 96 (by omega)]; exact g1
  have hs3 : knoS (s 96) (batsS (s 96) (flwS s) n) n 0 = nI n := by rw [knoS_out n 0 (fun _ _ => by omega)]; exact hs2
  have hs4 : knoS (s 96) (batsS (s 96) (flwS s) n) n 1 = s 1 := by rw [knoS_out n 1 (fun _ _ => by omega), hb 1 (by omega), flwS_out s (by omega)]
  have hc : (s 0).toNatClampNeg = n := by rw [hs]; exact nI_clamp (by omega)
  rw [ev_X2_passHour _ _ (co S hj s F rb), k_letWaterDown S hj s F rb]
  simp only [cb_eq, cb_ne, cb_lt, cb_ge, cb_gt, cb_le, cb_q, cb_qL, ri_s, rl_s, rr_s, rv_s, Option.bind_some, i10, cond_true, cond_false]
  have k1 := k_bats S hj (flwS s) F rb hn hs1 okf (wOK_flw hw) n (Nat.le_refl n)
  rw [g1] at k1
  rw [k1, bk_X2_passHour_6]
  simp only [cb_eq, cb_ne, cb_lt, cb_ge, cb_gt, cb_le, cb_q, cb_qL, ri_s, rl_s, rr_s, rv_s, Option.bind_some, i10, cond_true, cond_false, cg7 S hj, hs2, Int32.le_refl, if_true]
  have k2 := k_knos S hj (batsS (s 96) (flwS s) n) F rb hn hs2 okb n (Nat.le_refl n)
  rw [g2] at k2
  rw [k2, bk_X2_passHour_35]
  simp only [cb_eq, cb_ne, cb_lt, cb_ge, cb_gt, cb_le, cb_q, cb_qL, ri_s, rl_s, rr_s, rv_s, Option.bind_some, i10, cond_true, cond_false, cg7 S hj, hs3, Int32.le_refl, if_true, cg9 S hj, hs4, ch9 S hj, min_hour hh]
  unfold hourS
  rw [hc]
theorem hourS_1 {gone : Int32} (s : Nat → Int32) : hourS gone s 1 = s 1 + 1 := by
  unfold hourS
  rw [pk_us]
theorem hoursS_1 {gone : Int32} {s : Nat → Int32} {h : Nat} (hs : s 1 = nI h) : ∀ k, hoursS gone s k 1 = nI (h + k)
  | 0 => hs
  | k + 1 => by rw [hoursS, hourS_1, hoursS_1 hs k, nI_1]; rfl
theorem hoursS_96 {gone : Int32} {s : Nat → Int32} {n : Nat} (hn : n ≤ 8) (hs : s 0 = nI n) (ok : okN s n) : ∀ k, hoursS gone s k 96 = s 96
  | 0 => rfl
  | k + 1 => by
    obtain ⟨h1, h2⟩ := hoursS_ok (gone := gone) hn hs ok k
    rw [hoursS, hourS_out hn h2 h1 (by omega) (fun _ _ => by omega), hoursS_96 hn hs ok k]
theorem hoursS_w {gone : Int32} {s : Nat → Int32} {n : Nat} (hn : n ≤ 8) (hs : s 0 = nI n) (ok : okN s n) (hw : wOK s) : ∀ k, wOK (hoursS gone s k)
  | 0 => hw
  | k + 1 => by
    obtain ⟨h1, h2⟩ := hoursS_ok (gone := gone) hn hs ok k
    exact wOK_hour hn h2 h1 (hoursS_w hn hs ok hw k)
theorem k_passHours (S : Nat → Nat → Int32) {j : Nat} (hj : j < 3) (s : Nat → Int32) (F : Nat → Nat → Int32) (rb : Nat) {n : Nat} (hn : n ≤ 8) (hs : s 0 = nI n) (ok : okN s n) (hw : wOK s) {h : Nat} (hh : s 1 = nI h) {k : Nat} (hk : h + k ≤ 99999) : rv_EV 20 [.ref (sp j), .int (nI k)] (cR S j s F rb) = some (none, cR S j (hoursS (s 96) s k) F rb) := by
  have st : ∀ i, i ≤ k → rv_GO rc_X2_passHours 2 [some (.ref (sp j)), some (.int (nI k)), some (.int 0)] [] (cR S j s F rb) = rv_GO rc_X2_passHours 2 [some (.ref (sp j)), some (.int (nI k)), some (.int (nI i))] [] (cR S j (hoursS (s 96) s i) F rb) := by
    intro i
    induction i with
    | zero => intro _; rfl
    | succ i ih =>
      intro hi
      obtain ⟨h1, h2⟩ := hoursS_ok (gone := s 96) hn hs ok i
      have hp := k_passHour S hj (hoursS (s 96) s i) F rb hn h2 h1 (hoursS_w hn hs ok hw i) (by rw [hoursS_1 hh i, nI_1]; exact nI_le (a := h + i + 1) (b := 99999) (by omega) (by decide))
      rw [hoursS_96 hn hs ok i] at hp
      rw [ih (by omega), bk_X2_passHours_2]
      simp only [cb_eq, cb_ne, cb_lt, cb_ge, cb_gt, cb_le, cb_q, cb_qL, ri_s, rl_s, rr_s, rv_s, Option.bind_some, i10, cond_true, cond_false, nI_ge (show i < k by omega) (by omega), if_false, hp, nI_1]
      rfl
  rw [ev_X2_passHours _ _ _ (co S hj s F rb), st k (Nat.le_refl k), bk_X2_passHours_2]
  simp only [cb_eq, cb_ne, cb_lt, cb_ge, cb_gt, cb_le, cb_q, cb_qL, ri_s, rl_s, rr_s, rv_s, Option.bind_some, i10, cond_true, cond_false, Int32.le_refl, if_true]
/-! taking over another spa -/
theorem cpy_at {w : rv_W} {a d n : Nat} {f g : Nat → Int32} (ha : w[a]? = some (.inl (0, .inl (rv_tab n f)))) (hd : w[d]? = some (.inl (0, .inl (rv_tab n g)))) (hn : n < 2 ^ 31) : rv_cpy w a 0 d 0 (nI n) = some (w.set d (.inl (0, .inl (rv_tab n f)))) := by
  unfold rv_cpy rv_ints
  rw [ha, hd]
  simp only [Option.bind_some, rv_tab_len, nI_clamp hn, show (0 : Int32).toNatClampNeg = 0 from rfl, Nat.zero_add, Nat.le_refl, show (0 : Int32) ≤ 0 from by decide, nI_pos' hn, and_self, if_true]
  congr 5
  apply rv_tab_congr
  intro i hi
  rw [pk_cpy_in (Nat.zero_le _) (by omega), rv_getD_tab n f (by omega)]
  congr 1
  omega
