/-! THE REFERENCE, an hour: bathers -/
theorem okB_congr {s q : Nat → Int32} {b : Nat} (h : ∀ i, 54 + 4 * b ≤ i → i < 58 + 4 * b → q i = s i) : (okB s b → okB q b) ∧ kdS q b = kdS s b ∧ tbS q b = tbS s b ∧ owS q b = owS s b ∧ knS q b = knS s b := by
  have h0 := h (54 + 4 * b + 0) (by omega) (by omega)
  have h1 := h (54 + 4 * b + 1) (by omega) (by omega)
  have h2 := h (54 + 4 * b + 2) (by omega) (by omega)
  have h3 := h (54 + 4 * b + 3) (by omega) (by omega)
  have e0 : kdS q b = kdS s b := by unfold kdS; rw [h0]
  have e1 : tbS q b = tbS s b := by unfold tbS; rw [h1]
  have e2 : owS q b = owS s b := by unfold owS; rw [h2]
  have e3 : knS q b = knS s b := by unfold knS; rw [h3]
  refine ⟨fun ok => ?_, e0, e1, e2, e3⟩
  unfold okB at ok ⊢
  rw [h0, h1, h2, h3, e0, e1, e2, e3]
  exact ok
def okN (s : Nat → Int32) (n : Nat) : Prop := ∀ b, b < n → okB s b
theorem batS_out {s : Nat → Int32} {b : Nat} (ok : okB s b) {i : Nat} (hi : i < 4 ∨ 54 ≤ i) : batS s b i = s i := by
  obtain ⟨-, ⟨-, t2⟩, ⟨-, o2⟩, -⟩ := ok
  unfold batS coldS upd
  rw [if_neg (by omega), if_neg (by omega)]
theorem batsS_out {gone : Int32} {s : Nat → Int32} : ∀ (n : Nat), okN s n → ∀ i, (i < 4 ∨ 54 ≤ i) → batsS gone s n i = s i
  | 0, _, i, _ => rfl
  | n + 1, ok, i, hi => by
    have ih := batsS_out (gone := gone) (s := s) n (fun b hb => ok b (by omega))
    have okn : okB (batsS gone s n) n := (okB_congr (fun i h1 _ => ih i (by omega))).1 (ok n (by omega))
    rw [batsS]
    split
    · rw [batS_out okn hi]; exact ih i hi
    · exact ih i hi
theorem coldS_out {s : Nat → Int32} {b : Nat} (ok : okB s b) {i : Nat} (hi : 14 ≤ i) : coldS s b i = s i := by
  obtain ⟨-, ⟨-, t2⟩, -⟩ := ok
  unfold coldS upd
  rw [if_neg (by omega)]
theorem ge0_8 {n : Nat} (hn : n ≤ 8) {b : Nat} (hb : b < n) : ¬ nI n ≤ nI b := nI_ge hb (by omega)
theorem m_bat (A : Nat → Nat → Int32) (r : Nat → Int32) (gone : Int32) (s : Nat → Int32) {n b : Nat} (hn : n ≤ 8) (hs : s 0 = nI n) (hb : b < n) (ok : okB s b) :
    rv_GO rc_X5_hourBut 6 [some (.ref 0), some (.int gone), some (.int (nI b)), none, none, none] [] (mR A s r) = rv_GO rc_X5_hourBut 6 [some (.ref 0), some (.int gone), some (.int (nI (b + 1))), none, none, none] [] (mR A (if (gone >>> (nI b &&& 31)) &&& 1 = 0 then batS s b else s) r) := by
  have hb8 : b < 8 := by omega
  have okc : okB (coldS s b) b := (okB_congr (fun i h1 _ => coldS_out ok (by omega))).1 ok
  have ec := okB_congr (s := s) (q := coldS s b) (b := b) (fun i h1 _ => coldS_out ok (by omega))
  have hcl := r_cools A s r hb8 ok
  have hadd := r_adds A (coldS s b) r hb8 okc
  have c1 := r_its1 A (coldS s b) r hb8
  have c2 := r_its2 A (coldS s b) r hb8
  obtain ⟨⟨k1, k2⟩, ⟨t1, t2⟩, ⟨o1, o2⟩, ⟨n1, n2⟩⟩ := ok
  obtain ⟨⟨k1c, k2c⟩, ⟨t1c, t2c⟩, ⟨o1c, o2c⟩, ⟨n1c, n2c⟩⟩ := okc
  rw [t1c, ec.2.2.1] at c1
  rw [o1c, ec.2.2.2.1] at c2
  rw [bk_X5_hourBut_6]
  simp only [cb_eq, cb_ne, cb_lt, cb_ge, cb_gt, cb_le, cb_q, cb_qL, ri_s, rl_s, rr_s, rv_s, Option.bind_some, i10, cond_true, cond_false, lfR, ldR0, hs, ge0_8 hn hb, if_false, nI_1]
  by_cases hg : (gone >>> (nI b &&& 31)) &&& 1 = 0
  · rw [if_pos hg, if_pos hg]
    have tail : rv_GO rc_X5_hourBut 68 [some (.ref 0), some (.int gone), some (.int (nI b)), none, none, none] [.int (if s (4 + tbS s b) < coolS (kdS s b) then 0 else s (4 + tbS s b) - coolS (kdS s b)), .int (nI (4 + tbS s b)), .ref 1] (mR A s r) = rv_GO rc_X5_hourBut 6 [some (.ref 0), some (.int gone), some (.int (nI (b + 1))), none, none, none] [] (mR A (batS s b) r) := by
      rw [bk_X5_hourBut_68]
      simp only [cb_eq, cb_ne, cb_lt, cb_ge, cb_gt, cb_le, cb_q, cb_qL, ri_s, rl_s, rr_s, rv_s, Option.bind_some, i10, cond_true, cond_false, lfR, stR A s r (show 4 + tbS s b < 96 by omega)]
      rw [show upd s (4 + tbS s b) (if s (4 + tbS s b) < coolS (kdS s b) then 0 else s (4 + tbS s b) - coolS (kdS s b)) = coldS s b from rfl]
      simp only [c1, c2, cb_eq, cb_ne, cb_lt, cb_ge, cb_gt, cb_le, cb_q, cb_qL, ri_s, rl_s, rr_s, rv_s, Option.bind_some, i10, cond_true, cond_false, lfR, m_placeOf, ldR A (coldS s b) r (show 14 + 4 * tbS s b + owS s b < 96 by omega), hadd, stR A (coldS s b) r (show 14 + 4 * tbS s b + owS s b < 96 by omega), nI_1]
      unfold batS
      by_cases hm : 9999 < coldS s b (14 + 4 * tbS s b + owS s b) + addS (coldS s b) b
      · rw [if_neg (Int32.not_le.mpr hm), if_pos hm]
      · rw [if_pos (Int32.not_lt.mp hm), if_neg hm]
    simp only [r_its1 A s r hb8, t1, cb_eq, cb_ne, cb_lt, cb_ge, cb_gt, cb_le, cb_q, cb_qL, ri_s, rl_s, rr_s, rv_s, Option.bind_some, i10, cond_true, cond_false, lfR, c4_, ldR A s r (show 4 + tbS s b < 96 by omega), hcl]
    rw [← tail]
    by_cases hc : s (4 + tbS s b) < coolS (kdS s b)
    · rw [if_neg (Int32.not_le.mpr hc), if_pos hc]
    · rw [if_pos (Int32.not_lt.mp hc), if_neg hc]
  · rw [if_neg hg, if_neg hg]
theorem m_bats (A : Nat → Nat → Int32) (r : Nat → Int32) (gone : Int32) (s : Nat → Int32) {n : Nat} (hn : n ≤ 8) (hs : s 0 = nI n) (ok : okN s n) : ∀ b, b ≤ n →
    rv_GO rc_X5_hourBut 6 [some (.ref 0), some (.int gone), some (.int 0), none, none, none] [] (mR A s r) = rv_GO rc_X5_hourBut 6 [some (.ref 0), some (.int gone), some (.int (nI b)), none, none, none] [] (mR A (batsS gone s b) r) := by
  intro b
  induction b with
  | zero => intro _; rfl
  | succ b ih =>
    intro hb
    have ho := batsS_out (gone := gone) (s := s) b (fun c hc => ok c (by omega))
    rw [ih (by omega), m_bat A r gone (batsS gone s b) hn (by rw [ho 0 (by omega)]; exact hs) (by omega) ((okB_congr (fun i h1 _ => ho i (by omega))).1 (ok b (by omega)))]
    rfl
/-- who comes to know what, by bits -/
def moreS (s : Nat → Int32) (b : Nat) : Int32 := smlS s b 4 &&& (s (54 + 4 * b + 3) ^^^ (-1))
def comS (gone : Int32) (s : Nat → Int32) : Nat → Int64
  | 0 => Int32.toInt64 0
  | b + 1 => if (gone >>> (nI b &&& 31)) &&& 1 = 0 then comS gone s b ||| ((moreS (knoS gone s b) b).toInt64 <<< (Int32.toInt64 (4 * nI b) &&& 63)) else comS gone s b
theorem or_more (x y : Int32) : x ||| (y &&& (x ^^^ (-1))) = x ||| y := by
  apply Int32.toBitVec_inj.mp
  simp only [Int32.toBitVec_or, Int32.toBitVec_and, Int32.toBitVec_xor]
  apply BitVec.eq_of_getLsbD_eq
  intro i hi
  have h1 : (Int32.toBitVec (-1)).getLsbD i = true := by
    rw [show Int32.toBitVec (-1) = BitVec.allOnes 32 from rfl, BitVec.getLsbD_allOnes]
    exact decide_eq_true hi
  simp only [BitVec.getLsbD_or, BitVec.getLsbD_and, BitVec.getLsbD_xor, h1]
  cases x.toBitVec.getLsbD i <;> cases y.toBitVec.getLsbD i <;> rfl
theorem knoS_out {gone : Int32} {s : Nat → Int32} : ∀ (n i : Nat), (∀ b, b < n → ¬ i = 54 + 4 * b + 3) → knoS gone s n i = s i
  | 0, i, _ => rfl
  | n + 1, i, h => by
    have ih := knoS_out (gone := gone) (s := s) n i (fun b hb => h b (by omega))
    rw [knoS]
    split
    · unfold upd
      rw [if_neg (h n (by omega))]
      exact ih
    · exact ih
theorem m_kno (A : Nat → Nat → Int32) (r : Nat → Int32) (gone : Int32) (s : Nat → Int32) (v : Int64) {n b : Nat} (hn : n ≤ 8) (hs : s 0 = nI n) (hb : b < n) (ok : okB s b) :
    rv_GO rc_X5_hourBut 135 [some (.ref 0), some (.int gone), some (.long v), none, some (.int (nI b)), none] [] (mR A s r) = rv_GO rc_X5_hourBut 135 [some (.ref 0), some (.int gone), some (.long (if (gone >>> (nI b &&& 31)) &&& 1 = 0 then v ||| ((moreS s b).toInt64 <<< (Int32.toInt64 (4 * nI b) &&& 63)) else v)), none, some (.int (nI (b + 1))), none] [] (mR A (if (gone >>> (nI b &&& 31)) &&& 1 = 0 then upd s (54 + 4 * b + 3) (s (54 + 4 * b + 3) ||| smlS s b 4) else s) r) := by
  have hb8 : b < 8 := by omega
  have hsm := r_smells A s r hb8 ok
  have e3 : (54 + (4 * nI b)) + 3 = nI (54 + 4 * b + 3) := c54_ b 3
  rw [bk_X5_hourBut_135]
  simp only [cb_eq, cb_ne, cb_lt, cb_ge, cb_gt, cb_le, cb_q, cb_qL, ri_s, rl_s, rr_s, rv_s, Option.bind_some, i10, cond_true, cond_false, lfR, ldR0, hs, ge0_8 hn hb, if_false, nI_1]
  by_cases hg : (gone >>> (nI b &&& 31)) &&& 1 = 0
  · simp only [hg, if_true, hsm, cb_eq, cb_ne, cb_lt, cb_ge, cb_gt, cb_le, cb_q, cb_qL, ri_s, rl_s, rr_s, rv_s, Option.bind_some, i10, cond_true, cond_false, r_its3 A s r hb8, lfR, e3, ldR A s r (show 54 + 4 * b + 3 < 96 by omega), stR A s r (show 54 + 4 * b + 3 < 96 by omega), or_more]
    rfl
  · simp only [hg, if_false]
theorem m_knos (A : Nat → Nat → Int32) (r : Nat → Int32) (gone : Int32) (s : Nat → Int32) {n : Nat} (hn : n ≤ 8) (hs : s 0 = nI n) (ok : ∀ b, b < n → okB (knoS gone s b) b) : ∀ b, b ≤ n →
    rv_GO rc_X5_hourBut 135 [some (.ref 0), some (.int gone), some (.long (Int32.toInt64 0)), none, some (.int 0), none] [] (mR A s r) = rv_GO rc_X5_hourBut 135 [some (.ref 0), some (.int gone), some (.long (comS gone s b)), none, some (.int (nI b)), none] [] (mR A (knoS gone s b) r) := by
  intro b
  induction b with
  | zero => intro _; rfl
  | succ b ih =>
    intro hb
    rw [ih (by omega), m_kno A r gone (knoS gone s b) (comS gone s b) hn (by rw [knoS_out b 0 (fun _ _ => by omega)]; exact hs) (by omega) (ok b (by omega))]
    rfl
theorem knoS_ok {gone : Int32} {s : Nat → Int32} {b : Nat} (ok : okB s b) : okB (knoS gone s b) b :=
  (okB_congr (fun i h1 h2 => knoS_out b i (fun c hc => by omega))).1 ok
theorem m_hourBut (A : Nat → Nat → Int32) (s r : Nat → Int32) (gone : Int32) {n : Nat} (hn : n ≤ 8) (hs : s 0 = nI n) (ok : okN s n) :
    rv_EV 138 [.ref 0, .int gone] (mR A s r) = some (some (.long (comS gone (batsS gone (flwS s) n) n)), mR A (hourS gone s) r) := by
  have hf : ∀ i, (i < 4 ∨ 54 ≤ i) → flwS s i = s i := by
    intro i hi
    unfold flwS
    rw [if_neg (by omega), if_neg (by omega), if_neg (by omega), if_neg (by omega)]
  have okf : okN (flwS s) n := fun b hb => (okB_congr (fun i h1 _ => hf i (by omega))).1 (ok b hb)
  have hb := batsS_out (gone := gone) (s := flwS s) n okf
  have okb : okN (batsS gone (flwS s) n) n := fun b hb' => (okB_congr (fun i h1 _ => hb i (by omega))).1 (okf b hb')
  have hs1 : flwS s 0 = nI n := by rw [hf 0 (by omega)]; exact hs
  have hs2 : batsS gone (flwS s) n 0 = nI n := by rw [hb 0 (by omega)]; exact hs1
  have hs3 : knoS gone (batsS gone (flwS s) n) n 0 = nI n := by rw [knoS_out n 0 (fun _ _ => by omega)]; exact hs2
  have hs4 : knoS gone (batsS gone (flwS s) n) n 1 = s 1 := by rw [knoS_out n 1 (fun _ _ => by omega), hb 1 (by omega), hf 1 (by omega)]
  have hc : (s 0).toNatClampNeg = n := by rw [hs]; exact nI_clamp (by omega)
  rw [ev_X5_hourBut _ _ _ (obR A s r), m_flows]
  simp only [cb_eq, cb_ne, cb_lt, cb_ge, cb_gt, cb_le, cb_q, cb_qL, ri_s, rl_s, rr_s, rv_s, Option.bind_some, i10, cond_true, cond_false]
  rw [m_bats A r gone (flwS s) hn hs1 okf n (Nat.le_refl n), bk_X5_hourBut_6]
  simp only [cb_eq, cb_ne, cb_lt, cb_ge, cb_gt, cb_le, cb_q, cb_qL, ri_s, rl_s, rr_s, rv_s, Option.bind_some, i10, cond_true, cond_false, lfR, ldR0, hs2, Int32.le_refl, if_true]
  rw [m_knos A r gone (batsS gone (flwS s) n) hn hs2 (fun b hb' => knoS_ok (okb b hb')) n (Nat.le_refl n), bk_X5_hourBut_135]
  have e1 := stR A (knoS gone (batsS gone (flwS s) n) n) r (j := 1) (by decide) (s 1 + 1)
  rw [show nI 1 = 1 from rfl] at e1
  simp only [cb_eq, cb_ne, cb_lt, cb_ge, cb_gt, cb_le, cb_q, cb_qL, ri_s, rl_s, rr_s, rv_s, Option.bind_some, i10, cond_true, cond_false, lfR, ldR0, hs3, Int32.le_refl, if_true, ldR1, hs4, e1]
  unfold hourS
  rw [hc]
theorem sml_nI_b : ∀ a b c d : Bool, ∃ m : Fin 16, (((((0 : Int32) ||| (if a then 1 <<< (nI 0 &&& 31) else 0)) ||| (if b then 1 <<< (nI 1 &&& 31) else 0)) ||| (if c then 1 <<< (nI 2 &&& 31) else 0)) ||| (if d then 1 <<< (nI 3 &&& 31) else 0)) = nI m.val := by decide +kernel
theorem ite_b (p : Prop) [Decidable p] (x y : Int32) : (if p then x else y) = (if decide p then x else y) := by by_cases h : p <;> simp [h]
theorem sml_nI (s : Nat → Int32) (b : Nat) : ∃ m, m < 16 ∧ smlS s b 4 = nI m := by
  simp only [smlS]
  rw [ite_b, ite_b (_ ∧ _) (1 <<< (nI 1 &&& 31)), ite_b (_ ∧ _) (1 <<< (nI 2 &&& 31)), ite_b (_ ∧ _) (1 <<< (nI 3 &&& 31))]
  obtain ⟨m, hm⟩ := sml_nI_b _ _ _ _
  exact ⟨m.val, m.isLt, hm⟩
theorem or_nI_b : ∀ a b : Fin 16, ∃ m : Fin 16, nI a.val ||| nI b.val = nI m.val := by decide +kernel
theorem or_nI {a b : Nat} (ha : a < 16) (hb : b < 16) : ∃ m, m < 16 ∧ nI a ||| nI b = nI m := by
  obtain ⟨m, hm⟩ := or_nI_b ⟨a, ha⟩ ⟨b, hb⟩
  exact ⟨m.val, m.isLt, hm⟩
theorem knoS_at {gone : Int32} {s : Nat → Int32} {n b : Nat} (hb : b < n) : knoS gone s n (54 + 4 * b + 3) = knoS gone s (b + 1) (54 + 4 * b + 3) := by
  induction n with
  | zero => omega
  | succ n ih =>
    by_cases h : b = n
    · subst h; rfl
    · rw [knoS]
      split
      · unfold upd
        rw [if_neg (by omega)]
        exact ih (by omega)
      · exact ih (by omega)
theorem okB_kn {s q : Nat → Int32} {b : Nat} (ok : okB s b) (h : ∀ i, 54 + 4 * b ≤ i → i < 57 + 4 * b → q i = s i) {m : Nat} (hm : m < 16) (hq : q (54 + 4 * b + 3) = nI m) : okB q b := by
  obtain ⟨⟨k1, k2⟩, ⟨t1, t2⟩, ⟨o1, o2⟩, -⟩ := ok
  have h0 := h (54 + 4 * b + 0) (by omega) (by omega)
  have h1 := h (54 + 4 * b + 1) (by omega) (by omega)
  have h2 := h (54 + 4 * b + 2) (by omega) (by omega)
  have e0 : kdS q b = kdS s b := by unfold kdS; rw [h0]
  have e1 : tbS q b = tbS s b := by unfold tbS; rw [h1]
  have e2 : owS q b = owS s b := by unfold owS; rw [h2]
  have e3 : knS q b = m := by unfold knS; rw [hq]; exact nI_clamp (by omega)
  refine ⟨⟨by rw [h0, e0]; exact k1, by rw [e0]; exact k2⟩, ⟨by rw [h1, e1]; exact t1, by rw [e1]; exact t2⟩, ⟨by rw [h2, e2]; exact o1, by rw [e2]; exact o2⟩, by rw [hq, e3], by rw [e3]; exact hm⟩
theorem flwS_out (s : Nat → Int32) {i : Nat} (hi : i < 4 ∨ 54 ≤ i) : flwS s i = s i := by
  unfold flwS
  rw [if_neg (by omega), if_neg (by omega), if_neg (by omega), if_neg (by omega)]
/-- an hour leaves bathers, but for what they know -/
theorem hourS_out {gone : Int32} {s : Nat → Int32} {n : Nat} (hn : n ≤ 8) (hs : s 0 = nI n) (ok : okN s n) {i : Nat} (hi : i = 0 ∨ i = 2 ∨ i = 3 ∨ 54 ≤ i) (hk : ∀ b, b < n → ¬ i = 54 + 4 * b + 3) : hourS gone s i = s i := by
  have okf : okN (flwS s) n := fun b hb => (okB_congr (fun i h1 _ => flwS_out s (by omega))).1 (ok b hb)
  unfold hourS
  rw [show (s 0).toNatClampNeg = n by rw [hs]; exact nI_clamp (by omega)]
  unfold upd
  rw [if_neg (by omega), knoS_out n i hk, batsS_out n okf i (by omega), flwS_out s (by omega)]
theorem hourS_okN {gone : Int32} {s : Nat → Int32} {n : Nat} (hn : n ≤ 8) (hs : s 0 = nI n) (ok : okN s n) : okN (hourS gone s) n := by
  intro b hb
  have okf : okN (flwS s) n := fun b hb => (okB_congr (fun i h1 _ => flwS_out s (by omega))).1 (ok b hb)
  have hbo := batsS_out (gone := gone) (s := flwS s) n okf
  have okb : okB (batsS gone (flwS s) n) b := (okB_congr (fun i h1 _ => hbo i (by omega))).1 (okf b hb)
  have okk : okB (knoS gone (batsS gone (flwS s) n) b) b := knoS_ok okb
  have key : ∃ m, m < 16 ∧ hourS gone s (54 + 4 * b + 3) = nI m := by
    unfold hourS
    rw [show (s 0).toNatClampNeg = n by rw [hs]; exact nI_clamp (by omega)]
    unfold upd
    rw [if_neg (by omega), knoS_at hb, knoS]
    obtain ⟨-, -, -, n1, n2⟩ := okk
    split
    · obtain ⟨m, hm, he⟩ := sml_nI (knoS gone (batsS gone (flwS s) n) b) b
      unfold upd
      rw [if_pos rfl, he, n1]
      exact or_nI n2 hm
    · exact ⟨_, n2, n1⟩
  obtain ⟨m, hm, he⟩ := key
  exact okB_kn (ok b hb) (fun i h1 h2 => hourS_out hn hs ok (by omega) (fun c hc => by omega)) hm he
theorem hoursS_ok {gone : Int32} {s : Nat → Int32} {n : Nat} (hn : n ≤ 8) (hs : s 0 = nI n) (ok : okN s n) : ∀ k, okN (hoursS gone s k) n ∧ hoursS gone s k 0 = nI n
  | 0 => ⟨ok, hs⟩
  | k + 1 => by
    obtain ⟨h1, h2⟩ := hoursS_ok (gone := gone) hn hs ok k
    exact ⟨hourS_okN hn h2 h1, by rw [hoursS, hourS_out hn h2 h1 (Or.inl rfl) (fun _ _ => by omega)]; exact h2⟩
theorem m_hours (A : Nat → Nat → Int32) (s r : Nat → Int32) {n : Nat} (hn : n ≤ 8) (hs : s 0 = nI n) (ok : okN s n) {k : Nat} (hk : k < 2 ^ 31) : rv_EV 139 [.ref 0, .int (nI k)] (mR A s r) = some (none, mR A (hoursS 0 s k) r) := by
  have st : ∀ j, j ≤ k → rv_GO rc_X5_hours 2 [some (.ref 0), some (.int (nI k)), some (.int 0), none, none] [] (mR A s r) = rv_GO rc_X5_hours 2 [some (.ref 0), some (.int (nI k)), some (.int (nI j)), none, none] [] (mR A (hoursS 0 s j) r) := by
    intro j
    induction j with
    | zero => intro _; rfl
    | succ j ih =>
      intro hj
      obtain ⟨h1, h2⟩ := hoursS_ok (gone := 0) hn hs ok j
      rw [ih (by omega), bk_X5_hours_2]
      simp only [cb_eq, cb_ne, cb_lt, cb_ge, cb_gt, cb_le, cb_q, cb_qL, ri_s, rl_s, rr_s, rv_s, Option.bind_some, i10, cond_true, cond_false, nI_ge (show j < k by omega) hk, if_false, m_hourBut A (hoursS 0 s j) r 0 hn h2 h1, nI_1]
      rfl
  rw [ev_X5_hours _ _ _ (obR A s r), st k (Nat.le_refl k), bk_X5_hours_2]
  simp only [cb_eq, cb_ne, cb_lt, cb_ge, cb_gt, cb_le, cb_q, cb_qL, ri_s, rl_s, rr_s, rv_s, Option.bind_some, i10, cond_true, cond_false, Int32.le_refl, if_true]
