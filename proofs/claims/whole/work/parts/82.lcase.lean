/-! ONE CASE OF THE LAW'S SWITCH -/
def lc_ci (k ci : Nat) : Bool := match rv_ms[k]? with
  | some M => Nat.beq M.2.2.2.2.1 ci
  | none => false
theorem lc_ci_some {k ci : Nat} (h : lc_ci k ci = true) : ∃ M, rv_ms[k]? = some M ∧ M.2.2.2.2.1 = ci := by
  unfold lc_ci at h
  split at h
  · exact ⟨_, by assumption, Nat.eq_of_beq_eq_true h⟩
  · cases h
def lc_end (pc : Nat) (lg : Bool) : Bool := match lg with
  | false => decide (decode code pc = .ok (.if_icmp .eq ((1577 : Int) - Int.ofNat pc), 3))
  | true => decide (decode code pc = .ok (.lcmp, 1)) && decide (decode code (pc + 1) = .ok (.ifCond .eq ((1577 : Int) - Int.ofNat (pc + 1)), 3))
def lc_ok (P n iC kC pC iM kM pM : Nat) (lg : Bool) : Bool :=
  decide (decode code P = .ok (.aload_n 1, 1)) && (lc_push n (P + 1) 1 && (decide (decode code (P + 1 + 5 * n) = .ok (.invokevirtual iC, 3)) && (decide (decode code (P + 1 + 5 * n + 3) = .ok (.aload_n 2, 1)) && (lc_push n (P + 1 + 5 * n + 3 + 1) 1 && (decide (decode code (P + 1 + 5 * n + 3 + 1 + 5 * n) = .ok (.invokevirtual iM, 3)) && (lc_end (P + 1 + 5 * n + 3 + 1 + 5 * n + 3) lg && (rv_cl rv_ML iC kC pC n && (rv_cl rv_ML iM kM pM n && (lc_ci kC 3 && lc_ci kM 4)))))))))
/-- what stays: where the two objects' cells are, and what nobody writes -/
def lw_E (dC : Nat → ClassId) (dI : Nat → Nat → Nat) (dA : Nat → ClassId) (aX aM : Nat → Nat) (fv : Value) (s : State) : Prop :=
  (∀ i j, i < 38 → j < 38 → aX i = aX j → i = j) ∧ (∀ i j, i < 10 → j < 10 → aM i = aM j → i = j) ∧ fv.category = 1 ∧ va_K (dC, dI) vwCl (rv_tys dA) s ∧ rv_env aX fv (fun q => s.heap.size ≤ q) s s.heap ∧ rv_env aM fv (fun q => s.heap.size ≤ q) s s.heap ∧ rv_strs aX s ∧ rv_strs aM s ∧
  (∀ i, i < 38 → s.heap.size ≤ aX i) ∧ (∀ i, i < 10 → s.heap.size ≤ aM i) ∧ ∀ i j, i < 38 → j < 10 → ¬ aX i = aM j
/-- what goes on: the two worlds, related -/
def lw_I (dC : Nat → ClassId) (dI : Nat → Nat → Nat) (dA : Nat → ClassId) (aX aM : Nat → Nat) (fv : Value) (s : State) (h : Nat) (H : Heap) (locs : List Loc) : Prop :=
  ∃ A r S F rb s', va_P (dC, dI) vwCl (rv_cw aX fv dA (cR S 0 s' F rb)) H ∧ va_P (dC, dI) vwCl (rv_cw aM fv dA (mR A s' r)) H ∧ Rel h A r S F s' ∧ va_S (fun q => s.heap.size ≤ q) s.heap H locs
theorem cR_len (S : Nat → Nat → Int32) (s : Nat → Int32) (F : Nat → Nat → Int32) (rb : Nat) : (cR S 0 s F rb).length = 38 := rfl
theorem mR_len (A : Nat → Nat → Int32) (s r : Nat → Int32) : (mR A s r).length = 10 := rfl
theorem map_cv (ad : Nat → Nat) (fv : Value) (l : List Int32) : (l.map Value.int).map (rv_cv ad fv) = l.map Value.int := by
  rw [List.map_map]
  rfl
section LWK
variable {l : Launch} {dC : Nat → ClassId} {dI : Nat → Nat → Nat} {dA : Nat → ClassId} {aX aM : Nat → Nat} {fv : Value}
variable {p : Program} {e : Env} {s : State} {m : MethodId} {below : List Frame} {meth : Method} {c : Code} {Q : State → Prop} {H : Heap} {locs : List Loc} {ls : Array Slot} {cells slots b L : Nat} {xs : Nat → Int32}
theorem lw_ts (C0 : lw_At p s m meth c b L xs) : ∀ w ∈ rv_T, w.before #[Value.ref b] s = true := fun w hw => C0.2.2.2.2.2.1 w (List.mem_filter.mp hw).1
/-- both calls, and their answers on the stack -/
theorem lw_two (hL : L ≤ 3072) (C0 : lw_At p s m meth c b L xs) (E0 : lw_E dC dI dA aX aM fv s) {P n iC kC pC iM kM pM : Nat} {lg : Bool} (hok : lc_ok P n iC kC pC iM kM pM lg = true) {i : Nat} (hi : i + 1 + n ≤ L) (hl : lv_has ls 4 [(0, .ref b), (1, .ref (aX 0)), (2, .ref (aM 0)), (3, .int (nI i))]) (hc1 : cells ≤ 600000) (hc2 : slots ≤ 7302250)
    {A : Nat → Nat → Int32} {r : Nat → Int32} {S F : Nat → Nat → Int32} {rb : Nat} {s1 : Nat → Int32} (hPX : va_P (dC, dI) vwCl (rv_cw aX fv dA (cR S 0 s1 F rb)) H) (hPM : va_P (dC, dI) vwCl (rv_cw aM fv dA (mR A s1 r)) H) (hS : va_S (fun q => s.heap.size ≤ q) s.heap H locs)
    {v : Value} (hv : ∀ ad, rv_cv ad fv v = v) (hvc : v.category ≤ 8) {A' : Nat → Nat → Int32} {r' : Nat → Int32} {S' F' : Nat → Nat → Int32} {rb' : Nat} {s1' : Nat → Int32}
    (hm : rv_EV kM (.ref 0 :: (lw_vs xs i n 1).map Value.int) (mR A s1 r) = some (some v, mR A' s1' r')) (hc : rv_EV kC (.ref 0 :: (lw_vs xs i n 1).map Value.int) (cR S 0 s1 F rb) = some (some v, cR S' 0 s1' F' rb'))
    (kk : ∀ (H1 : Heap) (locs1 : List Loc), va_P (dC, dI) vwCl (rv_cw aX fv dA (cR S' 0 s1' F' rb')) H1 → va_P (dC, dI) vwCl (rv_cw aM fv dA (mR A' s1' r')) H1 → va_S (fun q => s.heap.size ≤ q) s.heap H1 locs1 → W p l e room_1 s m #[Value.ref b] below meth c H1 locs1 cells slots Q (F0 m (P + 1 + 5 * n + 3 + 1 + 5 * n + 3) ls [v, v])) :
    W p l e room_1 s m #[Value.ref b] below meth c H locs cells slots Q (F0 m P ls []) := by
  have hts := lw_ts C0
  obtain ⟨hx, hb, hr, hml, hown, -, hX, hbl, hlocks, hgv⟩ := C0
  obtain ⟨jX, jM, hfv, hK, enX, enM, stX, stM, geX, geM, apart⟩ := E0
  have hbA : ¬ (fun q : Nat => s.heap.size ≤ q) b := Nat.not_le.mpr hbl
  simp only [lc_ok, Bool.and_eq_true, decide_eq_true_eq] at hok
  obtain ⟨d0, d1, d2, d3, d4, d5, d6, d7, d8, d9, d10⟩ := hok
  obtain ⟨MC, hMC, ciC⟩ := lc_ci_some d9
  obtain ⟨MM, hMM, ciM⟩ := lc_ci_some d10
  refine lv_aload_n hx hb d0 rfl (lv_at hl 1 rfl) ?_
  refine lw_push hL hx hb hX hbl hbA hS hl n (P + 1) 1 [.ref (aX 0)] d1 (by omega) ?_
  have AX : ∀ q, rv_A aX 38 q → s.heap.size ≤ q := fun q ⟨i, hi, e⟩ => by rw [e]; exact geX i hi
  have AM : ∀ q, rv_A aM 10 q → s.heap.size ≤ q := fun q ⟨i, hi, e⟩ => by rw [e]; exact geM i hi
  rw [← map_cv aX fv (lw_vs xs i n 1)]
  refine lw_callV (ad := aX) (N := 38) (A0 := fun q => s.heap.size ≤ q) (ci := 3) jX (by decide) hfv hx hb hml hown hts hK enX stX AX hc (cR_len S s1 F rb) hMC d7 ciC (Or.inl rfl) rfl (by rw [List.length_map]; exact lw_vs_len xs i n 1) (by decide) d2 hPX hS hl.1 hc1 hc2 (fun H1 locs1 hPX1 fr1 hS1 => ?_)
  have hPM1 : va_P (dC, dI) vwCl (rv_cw aM fv dA (mR A s1 r)) H1 := hPM.kept (fun k q hk => by
    obtain ⟨h1, h2⟩ := rv_cw_key hk
    refine fr1 q.1 ((hPM k q hk).lt) (fun ⟨j, hj, e⟩ => apart j k hj h1 ?_)
    rw [← e, h2])
  show W p l e room_1 s m #[Value.ref b] below meth c H1 locs1 cells slots Q (F0 m (P + 1 + 5 * n + 3) ls [rv_cv aX fv v])
  rw [hv aX]
  refine lv_aload_n hx hb d3 rfl (lv_at hl 2 rfl) ?_
  refine lw_push hL hx hb hX hbl hbA hS1 hl n (P + 1 + 5 * n + 3 + 1) 1 [.ref (aM 0), v] d4 (by omega) ?_
  rw [← map_cv aM fv (lw_vs xs i n 1)]
  refine lw_callV (ad := aM) (N := 10) (A0 := fun q => s.heap.size ≤ q) (ci := 4) jM (by decide) hfv hx hb hml hown hts hK enM stM AM hm (mR_len A s1 r) hMM d8 ciM (Or.inr rfl) rfl (by rw [List.length_map]; exact lw_vs_len xs i n 1) (by simpa using hvc) d5 hPM1 hS1 hl.1 hc1 hc2 (fun H2 locs2 hPM2 fr2 hS2 => ?_)
  have hPX2 : va_P (dC, dI) vwCl (rv_cw aX fv dA (cR S' 0 s1' F' rb')) H2 := hPX1.kept (fun k q hk => by
    obtain ⟨h1, h2⟩ := rv_cw_key hk
    refine fr2 q.1 ((hPX1 k q hk).lt) (fun ⟨j, hj, e⟩ => apart k j h1 hj ?_)
    rw [← e, h2])
  show W p l e room_1 s m #[Value.ref b] below meth c H2 locs2 cells slots Q (F0 m (P + 1 + 5 * n + 3 + 1 + 5 * n + 3) ls [rv_cv aM fv v, v])
  rw [hv aM]
  exact kk H2 locs2 hPX2 hPM2 hS2
/-- a case whose answers are ints -/
theorem lw_case (hL : L ≤ 3072) (C0 : lw_At p s m meth c b L xs) (E0 : lw_E dC dI dA aX aM fv s) {P n iC kC pC iM kM pM : Nat} (hok : lc_ok P n iC kC pC iM kM pM false = true) {i : Nat} (hi : i + 1 + n ≤ L) (hl : lv_has ls 4 [(0, .ref b), (1, .ref (aX 0)), (2, .ref (aM 0)), (3, .int (nI i))]) (hc1 : cells ≤ 600000) (hc2 : slots ≤ 7302250)
    {h h' : Nat} (J : lw_I dC dI dA aX aM fv s h H locs) (sim : ∀ A r S F rb s1, Rel h A r S F s1 → Sim h' kM kC ((lw_vs xs i n 1).map Value.int) A r S F rb s1)
    (kk : ∀ (H1 : Heap) (locs1 : List Loc), lw_I dC dI dA aX aM fv s h' H1 locs1 → W p l e room_1 s m #[Value.ref b] below meth c H1 locs1 cells slots Q (F0 m 1577 ls [])) :
    W p l e room_1 s m #[Value.ref b] below meth c H locs cells slots Q (F0 m P ls []) := by
  obtain ⟨A, r, S, F, rb, s1, hPX, hPM, R, hS⟩ := J
  obtain ⟨v, A', r', S', F', rb', s1', hm, hc, R', y, rfl⟩ := sim A r S F rb s1 R
  have hx := C0.1
  have hb := C0.2.1
  have d6 : lc_end (P + 1 + 5 * n + 3 + 1 + 5 * n + 3) false = true := by
    simp only [lc_ok, Bool.and_eq_true] at hok
    exact hok.2.2.2.2.2.2.1
  refine lw_two (v := .int y) hL C0 E0 hok hi hl hc1 hc2 hPX hPM hS (fun _ => rfl) (show (1 : Nat) ≤ 8 by decide) hm hc (fun H1 locs1 h1 h2 h3 => ?_)
  generalize P + 1 + 5 * n + 3 + 1 + 5 * n + 3 = pc at d6 ⊢
  simp only [lc_end, decide_eq_true_eq] at d6
  refine lv_icmp_eq (tgt := 1577) hx hb d6 (by show (pc : Int) + ((1577 : Int) - (pc : Int)) = 1577; omega) (fun _ => ?_) (fun f => absurd rfl f)
  exact kk H1 locs1 ⟨A', r', S', F', rb', s1', h1, h2, R', h3⟩
/-- the case whose answers are longs -/
theorem lw_caseL (hL : L ≤ 3072) (C0 : lw_At p s m meth c b L xs) (E0 : lw_E dC dI dA aX aM fv s) {P n iC kC pC iM kM pM : Nat} (hok : lc_ok P n iC kC pC iM kM pM true = true) {i : Nat} (hi : i + 1 + n ≤ L) (hl : lv_has ls 4 [(0, .ref b), (1, .ref (aX 0)), (2, .ref (aM 0)), (3, .int (nI i))]) (hc1 : cells ≤ 600000) (hc2 : slots ≤ 7302250)
    {h h' : Nat} (J : lw_I dC dI dA aX aM fv s h H locs) (sim : ∀ A r S F rb s1, Rel h A r S F s1 → SimL h' kM kC ((lw_vs xs i n 1).map Value.int) A r S F rb s1)
    (kk : ∀ (H1 : Heap) (locs1 : List Loc), lw_I dC dI dA aX aM fv s h' H1 locs1 → W p l e room_1 s m #[Value.ref b] below meth c H1 locs1 cells slots Q (F0 m 1577 ls [])) :
    W p l e room_1 s m #[Value.ref b] below meth c H locs cells slots Q (F0 m P ls []) := by
  obtain ⟨A, r, S, F, rb, s1, hPX, hPM, R, hS⟩ := J
  obtain ⟨v, A', r', S', F', rb', s1', hm, hc, R', y, rfl⟩ := sim A r S F rb s1 R
  have hx := C0.1
  have hb := C0.2.1
  have d6 : lc_end (P + 1 + 5 * n + 3 + 1 + 5 * n + 3) true = true := by
    simp only [lc_ok, Bool.and_eq_true] at hok
    exact hok.2.2.2.2.2.2.1
  refine lw_two (v := .long y) hL C0 E0 hok hi hl hc1 hc2 hPX hPM hS (fun _ => rfl) (show (2 : Nat) ≤ 8 by decide) hm hc (fun H1 locs1 h1 h2 h3 => ?_)
  generalize P + 1 + 5 * n + 3 + 1 + 5 * n + 3 = pc at d6 ⊢
  simp only [lc_end, Bool.and_eq_true, decide_eq_true_eq] at d6
  refine W.lcmp hx hb d6.1 ?_
  refine lv_if_eq (tgt := 1577) hx hb d6.2 (by show ((pc + 1 : Nat) : Int) + ((1577 : Int) - ((pc + 1 : Nat) : Int)) = 1577; omega) (fun _ => ?_) (fun f => absurd (by simp [lg_cmp]) f)
  exact kk H1 locs1 ⟨A', r', S', F', rb', s1', h1, h2, R', h3⟩
end LWK
