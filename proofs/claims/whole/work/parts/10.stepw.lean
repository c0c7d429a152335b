/-! SOUNDNESS, fourth part: every instruction -/
section SNI
variable {l : Launch} {dC : Nat → ClassId} {dI : Nat → Nat → Nat} {dA : Nat → ClassId} {ad : Nat → Nat} {fv : Value} {N : Nat} {M : rv_M}
variable {p : Program} {e : Env} {s : State} {m : MethodId} {args : Array Value} {below : List Frame} {meth : Method} {c : Code} {r : rv_X}
abbrev rv_WW (l : Launch) (dC : Nat → ClassId) (dI : Nat → Nat → Nat) (dA : Nat → ClassId) (ad : Nat → Nat) (fv : Value) (N : Nat) (M : rv_M) (p : Program) (e : Env) (s : State) (m : MethodId) (args : Array Value) (below : List Frame) (meth : Method) (c : Code) (r : rv_X) (pc : Nat) (H : Heap) (locs : List Loc) (ls : Array Slot) (st : List Value) : Prop :=
  W p l e (rv_rm M) s m args below meth c H locs 0 0 (MQ below (rv_Qc dC dI dA ad fv N r) args s 0 0 (rv_A ad N)) (F0 m pc ls (st.map (rv_cv ad fv)))
def rv_HG (l : Launch) (dC : Nat → ClassId) (dI : Nat → Nat → Nat) (dA : Nat → ClassId) (ad : Nat → Nat) (fv : Value) (N : Nat) (M : rv_M) (p : Program) (e : Env) (s : State) (m : MethodId) (args : Array Value) (below : List Frame) (meth : Method) (c : Code) (r : rv_X) (G : rv_G) : Prop :=
  ∀ (pc : Nat) (lv : rv_L) (st : List Value) (w : rv_W) (H : Heap) (locs : List Loc) (ls : Array Slot), G pc lv st w = some r → w.length = N → va_P (dC, dI) vwCl (rv_cw ad fv dA w) H → va_S (rv_A ad N) s.heap H locs → rv_lh ad fv ls M.2.2.1 lv → rv_WW l dC dI dA ad fv N M p e s m args below meth c r pc H locs ls st
def rv_HE (l : Launch) (dC : Nat → ClassId) (dI : Nat → Nat → Nat) (dA : Nat → ClassId) (ad : Nat → Nat) (fv : Value) (N : Nat) (E : rv_F) : Prop :=
  ∀ (k : Nat) (as : List Value) (w : rv_W) (q : rv_X), E k as w = some q → w.length = N → ∃ M', rv_ms[k]? = some M' ∧ rv_isC w M'.2.2.2.2.1 as = true ∧ Met l M'.1 (rv_ws M') (rv_rm M') (rv_Pc dC dI dA ad fv N as w) (rv_Qc dC dI dA ad fv N q) 0 0 (rv_A ad N)
/-- the four kinds of answers -/
theorem rv_kinds {G : rv_G} {o : Option rv_X} {b pc : Nat} {lv : rv_L} {rest : List Value} (h : rv_if (Nat.beq (b % 4) 1) ((rv_ri o).bind fun q => G (pc + 3) lv (.int q.1 :: rest) q.2)
    (rv_if (Nat.beq (b % 4) 0) ((rv_rv o).bind fun q => G (pc + 3) lv rest q)
    (rv_if (Nat.beq (b % 4) 2) ((rv_rl o).bind fun q => G (pc + 3) lv (.long q.1 :: rest) q.2)
    ((rv_rr o).bind fun q => G (pc + 3) lv (.ref q.1 :: rest) q.2))) = some r) : ∃ q : rv_X, o = some q ∧ G (pc + 3) lv (q.1.toList ++ rest) q.2 = some r := by
  cases o with
  | none =>
    exfalso
    cases h1 : Nat.beq (b % 4) 1 with
    | true => rw [h1] at h; cases h
    | false =>
      rw [h1] at h
      cases h2 : Nat.beq (b % 4) 0 with
      | true => rw [h2] at h; cases h
      | false =>
        rw [h2] at h
        cases h3 : Nat.beq (b % 4) 2 with
        | true => rw [h3] at h; cases h
        | false => rw [h3] at h; cases h
  | some q =>
    refine ⟨q, rfl, ?_⟩
    obtain ⟨v, w⟩ := q
    cases h1 : Nat.beq (b % 4) 1 with
    | true =>
      rw [h1] at h
      cases v with
      | none => cases h
      | some v => cases v <;> first | exact h | cases h
    | false =>
      rw [h1] at h
      cases h2 : Nat.beq (b % 4) 0 with
      | true =>
        rw [h2] at h
        cases v with
        | none => exact h
        | some v => cases h
      | false =>
        rw [h2] at h
        cases h3 : Nat.beq (b % 4) 2 with
        | true =>
          rw [h3] at h
          cases v with
          | none => cases h
          | some v => cases v <;> first | exact h | cases h
        | false =>
          rw [h3] at h
          cases v with
          | none => cases h
          | some v => cases v <;> first | exact h | cases h
theorem rv_call_some {G : rv_G} {E : rv_F} {a b pc : Nat} {lv : rv_L} {st : List Value} {w : rv_W} (h : rv_call G E a b pc lv st w = some r) :
    (b / 4 ≤ st.length ∧ ((st.drop (b / 4)).map Value.category).sum ≤ 8) ∧ ∃ q : rv_X, E a (st.take (b / 4)).reverse w = some q ∧ G (pc + 3) lv (q.1.toList ++ st.drop (b / 4)) q.2 = some r := by
  unfold rv_call at h
  obtain ⟨h1, h2⟩ := rv_if_s h
  have h1 := (Bool.and_eq_true _ _).mp h1
  exact ⟨⟨Nat.le_of_ble_eq_true h1.1, Nat.le_of_ble_eq_true h1.2⟩, rv_kinds h2⟩
theorem rv_wl {w : rv_W} (hw : w.length = N) (k : Nat) (x : rv_E) : (w.set k x).length = N := by rw [List.length_set]; exact hw
theorem rv_lt {w : rv_W} (hw : w.length = N) {k : Nat} {x : rv_E} (h : w[k]? = some x) : k < N := by rw [← hw]; exact (List.getElem?_eq_some_iff.mp h).1
set_option maxHeartbeats 4000000 in
theorem rv_loadW (hinj : ∀ i j, i < N → j < N → ad i = ad j → i = j) (hN : N ≤ 1000) (C0 : rv_ctx dC dI dA ad fv N M p s m args meth c) {G : rv_G}
    (hG : rv_HG l dC dI dA ad fv N M p e s m args below meth c r G) {pc : Nat} {lv : rv_L} {rest : List Value} {w : rv_W} {H : Heap} {locs : List Loc} {ls : Array Slot} (hw : w.length = N) (hP : va_P (dC, dI) vwCl (rv_cw ad fv dA w) H) (hS : va_S (rv_A ad N) s.heap H locs) (hl : rv_lh ad fv ls M.2.2.1 lv)
    {q : Nat} {i : Int32} : (decode M.2.1 pc = .ok (.iaload, 1) → ∀ x, rv_ldI w q i = some x → G (pc + 1) lv (.int x :: rest) w = some r → rv_WW l dC dI dA ad fv N M p e s m args below meth c r pc H locs ls (.int i :: .ref q :: rest)) ∧
    (decode M.2.1 pc = .ok (.baload, 1) → ∀ x, rv_ldB w q i = some x → G (pc + 1) lv (.int x :: rest) w = some r → rv_WW l dC dI dA ad fv N M p e s m args below meth c r pc H locs ls (.int i :: .ref q :: rest)) ∧
    (decode M.2.1 pc = .ok (.aaload, 1) → ∀ x, rv_ldQ w q i = some x → G (pc + 1) lv (.ref x :: rest) w = some r → rv_WW l dC dI dA ad fv N M p e s m args below meth c r pc H locs ls (.int i :: .ref q :: rest)) ∧
    (decode M.2.1 pc = .ok (.arraylength, 1) → ∀ x, rv_len w q = some x → G (pc + 1) lv (.int x :: rest) w = some r → rv_WW l dC dI dA ad fv N M p e s m args below meth c r pc H locs ls (.ref q :: rest)) := by
  obtain ⟨hx, hb, hr, hml, hown, hts, hlocks, hK, hEn, hSt⟩ := C0
  have hg0 : ∀ pc' st', G pc' lv st' w = some r → rv_WW l dC dI dA ad fv N M p e s m args below meth c r pc' H locs ls st' := fun pc' st' h' => hG _ _ _ _ _ _ _ h' hw hP hS hl
  refine ⟨fun hd x h hk => ?_, fun hd x h hk => ?_, fun hd x h hk => ?_, fun hd x h hk => ?_⟩
  · unfold rv_ldI at h
    by_cases hq : q = 3000
    · rw [if_pos hq] at h
      obtain ⟨h1, h2⟩ := rv_ix_some h
      subst hq
      exact va_ti hx hb hEn.2.1.2 hS h1 (show Value.int (rv_above.getD i.toNatClampNeg 0) = .int x by rw [List.getD_eq_getElem?_getD, h2]; rfl) hd (hg0 _ (.int x :: rest) hk)
    · rw [if_neg hq] at h
      cases hxs : rv_ints w q with
      | none => rw [hxs] at h; cases h
      | some xs =>
        rw [hxs] at h
        obtain ⟨h1, h2⟩ := rv_ix_some h
        refine va_iald hx hb hK hP q 0 (rv_cw_at (rv_ints_some hxs)) rfl h1 hd ?_
        have hv : xs.getD i.toNatClampNeg 0 = x := by rw [List.getD_eq_getElem?_getD, h2]; rfl
        show W _ _ _ _ _ _ _ _ _ _ _ _ _ _ _ (F0 m (pc + 1) ls (.int (xs.getD i.toNatClampNeg 0) :: _))
        rw [hv]
        exact hg0 _ (.int x :: rest) hk
  · unfold rv_ldB at h
    by_cases hq : 2000 ≤ q
    · rw [if_pos hq] at h
      cases hxs : rv_strB[q - 2000]? with
      | none => rw [hxs] at h; cases h
      | some xs =>
        rw [hxs] at h
        obtain ⟨h1, h2⟩ := rv_ix_some h
        have hlt : q - 2000 < 14 := (List.getElem?_eq_some_iff.mp hxs).1
        have hT := (hEn.1.1 (q - 2000) hlt).2.2.2
        have hl1 : (rv_strB.map List.length).getD (q - 2000) 0 = xs.length := by rw [List.getD_eq_getElem?_getD, List.getElem?_map, hxs]; rfl
        have hl2 : rv_strB.getD (q - 2000) [] = xs := by rw [List.getD_eq_getElem?_getD, hxs]; rfl
        rw [hl1, hl2] at hT
        simp only [show 2000 + (q - 2000) = q by omega] at hT
        exact va_tb hx hb hT hS h1 (show Value.int (xs.getD i.toNatClampNeg 0) = .int x by rw [List.getD_eq_getElem?_getD, h2]; rfl) hd (hg0 _ (.int x :: rest) hk)
    · rw [if_neg hq] at h
      cases hxs : rv_byts w q with
      | none => rw [hxs] at h; cases h
      | some xs =>
        rw [hxs] at h
        obtain ⟨h1, h2⟩ := rv_ix_some h
        refine va_bald hx hb hK hP q 1 (rv_cw_at (rv_byts_some hxs)) rfl h1 hd ?_
        have hv : xs.getD i.toNatClampNeg 0 = x := by rw [List.getD_eq_getElem?_getD, h2]; rfl
        show W _ _ _ _ _ _ _ _ _ _ _ _ _ _ _ (F0 m (pc + 1) ls (.int (xs.getD i.toNatClampNeg 0) :: _))
        rw [hv]
        exact hg0 _ (.int x :: rest) hk
  · unfold rv_ldQ at h
    cases hxs : rv_refs w q with
    | none => rw [hxs] at h; cases h
    | some xs =>
      rw [hxs] at h
      simp only [Option.bind_some] at h
      cases hi : rv_ix xs i with
      | none => rw [hi] at h; cases h
      | some y =>
        rw [hi] at h
        have h : y = some x := h
        obtain ⟨h1, h2⟩ := rv_ix_some hi
        refine va_aldq hx hb hK hP q 2 (rv_cw_at (rv_refs_some hxs)) rfl h1 hd ?_
        have hv : xs.getD i.toNatClampNeg none = some x := by rw [List.getD_eq_getElem?_getD, h2, h]; rfl
        show W _ _ _ _ _ _ _ _ _ _ _ _ _ _ _ (F0 m (pc + 1) ls (va_rf ((xs.getD i.toNatClampNeg none).map ad) :: _))
        rw [hv]
        exact hg0 _ (.ref x :: rest) hk
  · unfold rv_len at h
    by_cases hq : 2000 ≤ q
    · rw [if_pos hq] at h
      cases hxs : rv_strB[q - 2000]? with
      | none => rw [hxs] at h; cases h
      | some xs =>
        rw [hxs] at h
        have h : Int32.ofNat xs.length = x := Option.some.inj h
        have hlt : q - 2000 < 14 := (List.getElem?_eq_some_iff.mp hxs).1
        have hT := (hEn.1.1 (q - 2000) hlt).2.2.2
        have hl1 : (rv_strB.map List.length).getD (q - 2000) 0 = xs.length := by rw [List.getD_eq_getElem?_getD, List.getElem?_map, hxs]; rfl
        rw [hl1] at hT
        simp only [show 2000 + (q - 2000) = q by omega] at hT
        exact va_tlen hx hb hT hS h hd (hg0 _ (.int x :: rest) hk)
    · rw [if_neg hq] at h
      split at h
      · rename_i xs hxs
        exact va_alen (ty := .int) hx hb hK hP q 0 (rv_cw_at hxs) rfl (Option.some.inj h) hd (hg0 _ (.int x :: rest) hk)
      · rename_i xs hxs
        exact va_alen (ty := .byte) hx hb hK hP q 1 (rv_cw_at hxs) rfl (Option.some.inj h) hd (hg0 _ (.int x :: rest) hk)
      · rename_i xs hxs
        exact va_alen (ty := .object "TubSteps$Sheet") hx hb hK hP q 2 (rv_cw_at hxs) rfl (Option.some.inj h) hd (hg0 _ (.int x :: rest) hk)
      · cases h
end SNI
