/-! SOUNDNESS, third part: calls, and every instruction -/
section SND
variable {l : Launch} {dC : Nat → ClassId} {dI : Nat → Nat → Nat} {dA : Nat → ClassId} {ad : Nat → Nat} {fv : Value} {N : Nat} {M : rv_M}
variable {p : Program} {e : Env} {s : State} {m : MethodId} {args : Array Value} {below : List Frame} {meth : Method} {c : Code} {r : rv_X}
theorem rv_good {ws : List Jvm.Cond} (h : ∀ w ∈ ws, w ∈ rv_T) : GoodIn rv_T ws := fun w hw => ⟨h w hw, good_of_word (List.mem_filter.mp (h w hw)).2⟩
theorem rv_Pc_blind (as : List Value) (w : rv_W) : FrameBlind (rv_Pc dC dI dA ad fv N as w) := by
  intro a U g mk h
  obtain ⟨h1, h2, h3, h4, h5⟩ := h
  exact ⟨h1, h2, va_K.moved (u := U) (U := U.calling g mk a) (Vm.Alike.refl U.vm) h3, rv_env.moved (u := U) (U := U.calling g mk a) (Vm.Alike.refl U.vm) h4, fun i q hq => vk_R.same (u := U) (U := U.calling g mk a) rfl (h5 i q hq)⟩
theorem rv_Pc_at {as : List Value} {w : rv_W} {H : Heap} {locs : List Loc} (hK : va_K (dC, dI) vwCl (rv_tys dA) s) (hEn : rv_env ad fv (rv_A ad N) s s.heap) (hSt : rv_strs ad s) (hP : va_P (dC, dI) vwCl (rv_cw ad fv dA w) H) (hS : va_S (rv_A ad N) s.heap H locs) (U : State) (hU : U.heap = H) (hW : s.WarmedH U.vm) :
    rv_Pc dC dI dA ad fv N as w (as.map (rv_cv ad fv)).toArray U :=
  ⟨rfl, by rw [hU]; exact hP, va_K.moved hW.alike hK, rv_env.moved hW.alike (by rw [hU]; exact hEn.kept hS.2.1), fun i q hq => vk_R.warm hW (hSt i q hq)⟩
theorem rv_after {Q : State → Prop} {R : Room} {H : Heap} {locs : List Loc} {pc : Nat} {ls : Array Slot} {st0 rest : List Value} {q : rv_X} {a : Array Value}
    (hr : va_Run p l e R s m args below meth c H locs 0 0 0 0 (F0 m pc ls st0) rest (rv_Qc dC dI dA ad fv N q a) (rv_A ad N)) (hS : va_S (rv_A ad N) s.heap H locs)
    (kk : ∀ (H1 : Heap) (locs1 : List Loc), va_P (dC, dI) vwCl (rv_cw ad fv dA q.2) H1 → q.2.length = N → va_S (rv_A ad N) s.heap H1 locs1 → W p l e R s m args below meth c H1 locs1 0 0 Q (F0 m (pc + 3) ls ((q.1.map (rv_cv ad fv)).toList ++ rest))) :
    W p l e R s m args below meth c H locs 0 0 Q (F0 m pc ls st0) := by
  intro T hT X
  obtain ⟨v, st₀, t, T', L, h0, X', hL, e1, e2, ⟨hv, hp, hn, hz, hk⟩, st⟩ := hr T hT X
  cases hv
  rw [h0] at hz hk
  obtain ⟨t2, a1, b1⟩ := kk T'.heap (locs ++ L) (by rw [e1]; exact hp) hn
    ⟨Nat.le_trans hS.1 (by rw [e1]; exact hz), fun q h1 h2 => by rw [e1, hk q (Nat.lt_of_lt_of_le h1 hS.1) h2]; exact hS.2.1 q h1 h2, fun q hq => by
      rcases List.mem_append.mp hq with h | h
      · exact hS.2.2 q h
      · exact hL q h⟩ T' rfl X'
  exact ⟨t2, st t2 a1, b1⟩
theorem rv_okM_some {M : rv_M} (h : ∃ q, rv_okM M q = true) : Jvm.Cond.code M.1 M.2.1 M.2.2.1 M.2.2.2.1 ∈ rv_T ∧ Jvm.Cond.initialized M.1.cls ∈ rv_T ∧ (M.2.2.2.2.1 = 99 → Jvm.Cond.static M.1 ∈ rv_T) ∧ (¬ M.2.2.2.2.1 = 99 → Jvm.Cond.instanceMethod M.1 ∈ rv_T ∧ Jvm.Cond.selects M.1.cls M.1 M.1 ∈ rv_T) ∧
    rv_okC M = true ∧ (M.1.cls ≠ "java/lang/invoke/MethodHandle" ∧ M.1.cls ≠ "java/lang/invoke/VarHandle") ∧ plainName M.1.cls = true ∧ ∀ q ∈ M.2.2.2.2.2.2.2, rv_okI M q.1 q.2 = true := by
  obtain ⟨q, h⟩ := h
  unfold rv_okM at h
  simp only [Bool.and_eq_true] at h
  obtain ⟨⟨⟨⟨⟨⟨h1, h2⟩, h3⟩, h4⟩, h5⟩, h6⟩, h7⟩ := h
  refine ⟨rv_w_in h1, rv_w_in h2, fun e => ?_, fun e => ?_, h4, ⟨of_decide_eq_true h5.1, of_decide_eq_true h5.2⟩, h6, fun q hq => List.all_eq_true.mp h7 q hq⟩
  · rw [e] at h3
    exact rv_w_in h3
  · have hb : Nat.beq M.2.2.2.2.1 99 = false := Bool.eq_false_iff.mpr fun q => e (Nat.eq_of_beq_eq_true q)
    rw [hb] at h3
    simp only [cond_false, Bool.and_eq_true] at h3
    exact ⟨rv_w_in h3.1, rv_w_in h3.2⟩
theorem rv_cl_some {M : rv_M} {i a pos n : Nat} (h : rv_cl M i a pos n = true) {M' : rv_M} (hM : rv_ms[a]? = some M') : Jvm.Cond.methodLink M.1.cls i M'.1 ∈ rv_T ∧ (parseMethodDescriptor M'.1.desc).map (fun d => d.parameters.length) = some n ∧ M'.2.2.2.2.2.1 + 1 ≤ M.2.2.2.2.2.1 ∧ 8 + (M'.2.2.1 + 11) + M'.2.2.2.2.2.2.1 ≤ M.2.2.2.2.2.2.1 := by
  unfold rv_cl at h
  rw [hM] at h
  simp only [Bool.and_eq_true, decide_eq_true_eq] at h
  exact ⟨rv_w_in h.1.1.1, h.1.1.2, h.1.2, h.2⟩
theorem rv_take_drop (f : Value → Value) (st : List Value) (n : Nat) : st.map f = (((st.take n).reverse).map f).reverse ++ (st.drop n).map f := by
  rw [← List.map_reverse, List.reverse_reverse, ← List.map_append, List.take_append_drop]
theorem rv_sum_cat (hfv : fv.category = 1) (st : List Value) : ((st.map (rv_cv ad fv)).map fun v => v.category).sum = (st.map Value.category).sum := by
  rw [List.map_map]
  congr 1
  apply List.map_congr_left
  intro v _
  exact rv_cv_cat hfv ad v
theorem rv_recvS {H : Heap} {locs : List Loc} {A : Nat → Prop} {len : List Nat} {byt : List (List Int32)} {adV : Nat → Nat} {n0 : Nat} (h1 : 1000 ≤ n0) (h2 : n0 < 1014) (hE : vk_S 14 len byt (fun i => ad (1000 + i)) adV A s s.heap) (hS : va_S A s.heap H locs) : ∃ cell : Cell, H[ad n0]? = some cell ∧ cell.vm.isStatics = false ∧ s.vm.findClass "java/lang/String" = some cell.cls := by
  have h := vk_recv (i := n0 - 1000) hE (by omega) hS
  simp only [show 1000 + (n0 - 1000) = n0 by omega] at h
  exact h
/-- a static call -/
theorem rv_callS {Q : State → Prop} {H : Heap} {locs : List Loc} {pc : Nat} {ls : Array Slot} {st : List Value} {w : rv_W} {q : rv_X} {M' : rv_M} {idx a pos n : Nat} (hfv : fv.category = 1) (C0 : rv_ctx dC dI dA ad fv N M p s m args meth c)
    (hM : rv_ms[a]? = some M') (hcl : rv_cl M idx a pos n = true) (hcs : rv_cs a true = true) (hle : ((st.drop n).map Value.category).sum ≤ 8) (hn : n ≤ st.length)
    (hMet : Met l M'.1 (rv_ws M') (rv_rm M') (rv_Pc dC dI dA ad fv N (st.take n).reverse w) (rv_Qc dC dI dA ad fv N q) 0 0 (rv_A ad N))
    (hd : decode M.2.1 pc = .ok (.invokestatic idx, 3)) (hP : va_P (dC, dI) vwCl (rv_cw ad fv dA w) H) (hS : va_S (rv_A ad N) s.heap H locs) (hls : ls.size = M.2.2.1)
    (kk : ∀ (H1 : Heap) (locs1 : List Loc), va_P (dC, dI) vwCl (rv_cw ad fv dA q.2) H1 → q.2.length = N → va_S (rv_A ad N) s.heap H1 locs1 → W p l e (rv_rm M) s m args below meth c H1 locs1 0 0 Q (F0 m (pc + 3) ls ((q.1.map (rv_cv ad fv)).toList ++ (st.drop n).map (rv_cv ad fv)))) :
    W p l e (rv_rm M) s m args below meth c H locs 0 0 Q (F0 m pc ls (st.map (rv_cv ad fv))) := by
  obtain ⟨hx, hb, hr, hml, hown, hts, hlocks, hK, hEn, hSt⟩ := C0
  obtain ⟨o1, o2, o3, o4, o5, o6, o7, o8⟩ := rv_okM_some (rv_ms_ok a M' hM)
  obtain ⟨k1, k2, k3, k4⟩ := rv_cl_some hcl hM
  have h99 : M'.2.2.2.2.1 = 99 := by
    unfold rv_cs at hcs
    rw [hM] at hcs
    exact Nat.eq_of_beq_eq_true (of_decide_eq_true hcs)
  have hG : GoodIn rv_T (va_wsS M.1.cls idx M'.1 (rv_ws M')) := rv_good (by
    intro w hw
    unfold va_wsS rv_ws at hw
    simp only [List.cons_append, List.nil_append, List.mem_cons] at hw
    rcases hw with rfl | rfl | rfl | rfl | hw
    · exact k1
    · exact o3 h99
    · exact o2
    · exact o1
    · exact hw)
  have hrun := va_runS (l := l) (e := e) (R := rv_rm M) (below := below) (meth := meth) (H := H) (locs := locs) (cells := 0) (slots := 0) (mc := 0) (ms := 0) (g := F0 m pc ls (st.map (rv_cv ad fv))) (rest := (st.drop n).map (rv_cv ad fv)) (As := ((st.take n).reverse).map (rv_cv ad fv)) (n := n)
    (show CallFix p m c M.2.1 M.2.2.1 s args rv_T M.1.cls from ⟨hx, hb, hml, hown, hts⟩) hMet (va_cwS n hts hG rfl rfl rfl ⟨o6.1, o6.2, k2⟩ ⟨k3, k4⟩)
    ⟨rv_Pc_blind _ _, fun U hU hW => rv_Pc_at hK hEn hSt hP hS U hU hW⟩ rfl (by simp [hn]) hls (rv_take_drop _ _ _) (lv_room (by rw [rv_sum_cat hfv]; exact hle)) hd ⟨Nat.le_refl _, Nat.le_refl _⟩
  exact rv_after hrun hS kk
/-- a virtual call -/
theorem rv_callV {Q : State → Prop} {H : Heap} {locs : List Loc} {pc : Nat} {ls : Array Slot} {st : List Value} {w : rv_W} {q : rv_X} {M' : rv_M} {idx a pos n : Nat} (hfv : fv.category = 1) (C0 : rv_ctx dC dI dA ad fv N M p s m args meth c)
    (hM : rv_ms[a]? = some M') (hcl : rv_cl M idx a pos (n - 1) = true) (hcs : rv_cs a false = true) (h0 : 0 < n) (hle : ((st.drop n).map Value.category).sum ≤ 8) (hn : n ≤ st.length) (hisC : rv_isC w M'.2.2.2.2.1 (st.take n).reverse = true)
    (hMet : Met l M'.1 (rv_ws M') (rv_rm M') (rv_Pc dC dI dA ad fv N (st.take n).reverse w) (rv_Qc dC dI dA ad fv N q) 0 0 (rv_A ad N))
    (hd : decode M.2.1 pc = .ok (.invokevirtual idx, 3)) (hP : va_P (dC, dI) vwCl (rv_cw ad fv dA w) H) (hS : va_S (rv_A ad N) s.heap H locs) (hls : ls.size = M.2.2.1)
    (kk : ∀ (H1 : Heap) (locs1 : List Loc), va_P (dC, dI) vwCl (rv_cw ad fv dA q.2) H1 → q.2.length = N → va_S (rv_A ad N) s.heap H1 locs1 → W p l e (rv_rm M) s m args below meth c H1 locs1 0 0 Q (F0 m (pc + 3) ls ((q.1.map (rv_cv ad fv)).toList ++ (st.drop n).map (rv_cv ad fv)))) :
    W p l e (rv_rm M) s m args below meth c H locs 0 0 Q (F0 m pc ls (st.map (rv_cv ad fv))) := by
  obtain ⟨hx, hb, hr, hml, hown, hts, hlocks, hK, hEn, hSt⟩ := C0
  obtain ⟨o1, o2, o3, o4, o5, o6, o7, o8⟩ := rv_okM_some (rv_ms_ok a M' hM)
  obtain ⟨k1, k2, k3, k4⟩ := rv_cl_some hcl hM
  have h99 : ¬ M'.2.2.2.2.1 = 99 := by
    unfold rv_cs at hcs
    rw [hM] at hcs
    have := of_decide_eq_true hcs
    intro q
    rw [q] at this
    cases this
  have hG : GoodIn rv_T (wsV M.1.cls idx M'.1.cls M'.1 (rv_ws M')) := rv_good (by
    intro w hw
    unfold wsV rv_ws at hw
    simp only [List.cons_append, List.nil_append, List.mem_cons] at hw
    rcases hw with rfl | rfl | rfl | rfl | rfl | hw
    · exact k1
    · exact (o4 h99).1
    · exact (o4 h99).2
    · exact o2
    · exact o1
    · exact hw)
  obtain ⟨b0, As, hAs⟩ : ∃ b0 As, (st.take n).reverse = .ref b0 :: As := by
    unfold rv_isC at hisC
    split at hisC
    · exact absurd (by assumption) h99
    · split at hisC
      · exact ⟨_, _, by assumption⟩
      · cases hisC
    · split at hisC
      · exact ⟨_, _, by assumption⟩
      · cases hisC
  have hrec : ∃ cellB : Cell, H[ad b0]? = some cellB ∧ cellB.vm.isStatics = false ∧ s.vm.findClass M'.1.cls = some cellB.cls := by
    rw [hAs] at hisC
    unfold rv_isC at hisC
    unfold rv_okC at o5
    split at hisC
    · exact absurd (by assumption) h99
    · rename_i h98
      rw [h98] at o5
      have o5 : M'.1.cls = "java/lang/String" := of_decide_eq_true o5
      have hisC : (decide (1000 ≤ b0) && decide (b0 < 1014)) = true := hisC
      have z1 : @LE.le Nat _ 1000 b0 := of_decide_eq_true ((Bool.and_eq_true _ _).mp hisC).1
      have z2 : @LT.lt Nat _ b0 1014 := of_decide_eq_true ((Bool.and_eq_true _ _).mp hisC).2
      have hE := rv_recvS (n0 := b0) z1 z2 hEn.1 hS
      rw [o5]
      exact hE
    · rename_i ci hne1 hne2
      simp only at hisC
      split at o5
      · exact absurd (by assumption) h99
      · rename_i h98
        exact absurd h98 (by assumption)
      · have o5 := of_decide_eq_true o5
        cases hq : vwCl[M'.2.2.2.2.1]? with
        | none => rw [hq] at o5; cases o5
        | some q =>
          rw [hq] at o5
          have o5 : q.1 = M'.1.cls := Option.some.inj o5
          cases hf : rv_obj w b0 M'.2.2.2.2.1 with
          | none => rw [hf] at hisC; cases hisC
          | some fs =>
            rw [← o5]
            exact va_recv hK hP hq (rv_cw_at (rv_obj_some hf))
  have hst : st.map (rv_cv ad fv) = (As.map (rv_cv ad fv)).reverse ++ .ref (ad b0) :: (st.drop n).map (rv_cv ad fv) := by
    rw [rv_take_drop (rv_cv ad fv) st n, hAs]
    simp [rv_cv]
  have hlen : As.length = n - 1 := by
    have h1 : ((st.take n).reverse).length = n := by simp [hn]
    rw [hAs] at h1
    simp at h1
    omega
  rw [hAs] at hMet
  have hrun := va_runV (l := l) (e := e) (R := rv_rm M) (below := below) (meth := meth) (H := H) (locs := locs) (cells := 0) (slots := 0) (mc := 0) (ms := 0) (b := ad b0) (C := M'.1.cls) (g := F0 m pc ls (st.map (rv_cv ad fv))) (rest := (st.drop n).map (rv_cv ad fv)) (As := As.map (rv_cv ad fv)) (n := n - 1)
    (show CallFix p m c M.2.1 M.2.2.1 s args rv_T M.1.cls from ⟨hx, hb, hml, hown, hts⟩) hMet (cwV (n - 1) hts hG rfl rfl rfl ⟨rfl, o6.1, o6.2, k2⟩ ⟨k3, k4⟩)
    ⟨rv_Pc_blind _ _, hrec, fun U hU hW => rv_Pc_at (as := .ref b0 :: As) hK hEn hSt hP hS U hU hW⟩ rfl (by simp [hlen]) hls hst (lv_room (by rw [rv_sum_cat hfv]; exact hle)) hd ⟨Nat.le_refl _, Nat.le_refl _⟩
  exact rv_after hrun hS kk
end SND
