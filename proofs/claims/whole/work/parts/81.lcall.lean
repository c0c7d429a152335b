/-! THE LAW'S CALLS: one lemma for all of them -/
def rv_ML : rv_M := (x, code, 4, some .boolean, 99, 13, 488, [])
theorem rv_cw_key {ad : Nat → Nat} {fv : Value} {dA : Nat → ClassId} {w : rv_W} {k : Nat} {q : Nat × va_E} (h : (rv_cw ad fv dA w)[k]? = some q) : k < w.length ∧ q.1 = ad k := by
  rw [rv_cw_get] at h
  cases hw : w[k]? with
  | none => rw [hw] at h; cases h
  | some z =>
    rw [hw] at h
    cases h
    exact ⟨(List.getElem?_eq_some_iff.mp hw).1, rfl⟩
section LWC
variable {l : Launch} {dC : Nat → ClassId} {dI : Nat → Nat → Nat} {dA : Nat → ClassId} {ad : Nat → Nat} {fv : Value} {N : Nat} {A0 : Nat → Prop}
variable {p : Program} {e : Env} {s : State} {m : MethodId} {args : Array Value} {below : List Frame} {meth : Method} {c : Code}
theorem lw_callV {Q : State → Prop} {H : Heap} {locs : List Loc} {pc : Nat} {ls : Array Slot} {w : rv_W} {q : rv_X} {M' : rv_M} {idx k pos n ci cells slots : Nat} {As rest : List Value}
    (hinj : ∀ i j, i < N → j < N → ad i = ad j → i = j) (hN : N ≤ 1000) (hfv : fv.category = 1) (hx : p.tables.exec = Jvm.exec) (hb : c.code = code) (hml : c.maxLocals = 4) (hown : s.vm.findClass R_law = some m.cls) (hts : ∀ w ∈ rv_T, w.before args s = true)
    (hK : va_K (dC, dI) vwCl (rv_tys dA) s) (hEn : rv_env ad fv A0 s s.heap) (hSt : rv_strs ad s) (hA0 : ∀ q, rv_A ad N q → A0 q)
    (hE : rv_EV k (.ref 0 :: As) w = some q) (hw : w.length = N) (hM : rv_ms[k]? = some M') (hcl : rv_cl rv_ML idx k pos n = true) (hci : M'.2.2.2.2.1 = ci) (hci2 : ci = 3 ∨ ci = 4) (hob : (rv_obj w 0 ci).isSome = true) (hAs : As.length = n) (hrest : (rest.map fun v => v.category).sum ≤ 8)
    (hd : decode code pc = .ok (.invokevirtual idx, 3)) (hP : va_P (dC, dI) vwCl (rv_cw ad fv dA w) H) (hS : va_S A0 s.heap H locs) (hls : ls.size = 4) (hc1 : cells ≤ 600000) (hc2 : slots ≤ 7302250)
    (kk : ∀ (H1 : Heap) (locs1 : List Loc), va_P (dC, dI) vwCl (rv_cw ad fv dA q.2) H1 → (∀ a : Nat, a < H.size → ¬ rv_A ad N a → H1[a]? = H[a]?) → va_S A0 s.heap H1 locs1 → W p l e room_1 s m args below meth c H1 locs1 cells slots Q (F0 m (pc + 3) ls ((q.1.map (rv_cv ad fv)).toList ++ rest))) :
    W p l e room_1 s m args below meth c H locs cells slots Q (F0 m pc ls ((As.map (rv_cv ad fv)).reverse ++ .ref (ad 0) :: rest)) := by
  obtain ⟨o1, o2, o3, o4, o5, o6, o7, o8⟩ := rv_okM_some (rv_ms_ok k M' hM)
  obtain ⟨k1, k2, k3, k4⟩ := rv_cl_some hcl hM
  have h99 : ¬ M'.2.2.2.2.1 = 99 := by
    rw [hci]
    rcases hci2 with h | h <;> omega
  have hG : GoodIn rv_T (wsV R_law idx M'.1.cls M'.1 (rv_ws M')) := rv_good (by
    intro w hw
    unfold wsV rv_ws at hw
    simp only [List.cons_append, List.nil_append, List.mem_cons] at hw
    rcases hw with rfl | rfl | rfl | rfl | rfl | hw
    · exact k1
    · exact (o4 h99).1
    · exact (o4 h99).2
    · exact o2
    · exact o1
    · exact hw)
  have hcls : ∃ qv, vwCl[ci]? = some qv ∧ qv.1 = M'.1.cls := by
    unfold rv_okC at o5
    rw [hci] at o5
    rcases hci2 with rfl | rfl
    · exact ⟨_, rfl, Option.some.inj (of_decide_eq_true o5)⟩
    · exact ⟨_, rfl, Option.some.inj (of_decide_eq_true o5)⟩
  obtain ⟨fs, hf⟩ := Option.isSome_iff_exists.mp hob
  have hrec : ∃ cellB : Cell, H[ad 0]? = some cellB ∧ cellB.vm.isStatics = false ∧ s.vm.findClass M'.1.cls = some cellB.cls := by
    obtain ⟨qv, h1, h2⟩ := hcls
    rw [← h2]
    exact va_recv hK hP h1 (rv_cw_at (rv_obj_some hf))
  have hMet := rv_met (l := l) (dC := dC) (dI := dI) (dA := dA) hinj hN hfv hE hw hM
  have hrun := va_runV (l := l) (e := e) (R := room_1) (below := below) (meth := meth) (H := H) (locs := locs) (cells := cells) (slots := slots) (mc := 0) (ms := 0) (b := ad 0) (C := M'.1.cls) (g := F0 m pc ls ((As.map (rv_cv ad fv)).reverse ++ .ref (ad 0) :: rest)) (rest := rest) (As := As.map (rv_cv ad fv)) (n := n)
    (show CallFix p m c code 4 s args rv_T R_law from ⟨hx, hb, hml, hown, hts⟩) hMet (cwV n hts hG rfl rfl rfl ⟨rfl, o6.1, o6.2, k2⟩ ⟨k3, k4⟩)
    ⟨rv_Pc_blind _ _, hrec, fun U hU hW => ⟨rfl, by rw [hU]; exact hP, va_K.moved hW.alike hK, rv_env.moved hW.alike (by rw [hU]; exact (hEn.kept hS.2.1).narrow hA0), fun i q hq => vk_R.warm hW (hSt i q hq)⟩⟩ rfl (by simp [hAs]) hls rfl (lv_room hrest) hd ⟨hc1, hc2⟩
  intro T hT X
  obtain ⟨v, st₀, t, T', Lc, h0, X', hL, e1, e2, ⟨hv, hp, hn, hz, hk⟩, st⟩ := hrun T hT X
  cases hv
  rw [h0] at hz hk
  obtain ⟨t2, a1, b1⟩ := kk T'.heap (locs ++ Lc) (by rw [e1]; exact hp) (fun a h1 h2 => by rw [e1]; exact hk a h1 h2)
    ⟨Nat.le_trans hS.1 (by rw [e1]; exact hz), fun q h1 h2 => by rw [e1, hk q (Nat.lt_of_lt_of_le h1 hS.1) (fun z => h2 (hA0 q z))]; exact hS.2.1 q h1 h2, fun q hq => by
      rcases List.mem_append.mp hq with h | h
      · exact hS.2.2 q h
      · exact hA0 _ (hL q h)⟩ T' rfl X'
  exact ⟨t2, st t2 a1, b1⟩
end LWC
/-! arguments out of the script -/
def lc_push : Nat → Nat → Nat → Bool
  | 0, _, _ => true
  | n + 1, pc, j => decide (decode code pc = .ok (.aload_n 0, 1)) && (decide (decode code (pc + 1) = .ok (.iload_n 3, 1)) && (decide (decode code (pc + 2) = .ok (.iconst (Int.ofNat j), 1)) && (decide (decode code (pc + 3) = .ok (.iadd, 1)) && (decide (decode code (pc + 4) = .ok (.iaload, 1)) && lc_push n (pc + 5) (j + 1)))))
def lw_vs (xs : Nat → Int32) (i : Nat) : Nat → Nat → List Int32
  | 0, _ => []
  | n + 1, j => xs (i + j) :: lw_vs xs i n (j + 1)
theorem lw_vs_len (xs : Nat → Int32) (i : Nat) : ∀ n j, (lw_vs xs i n j).length = n
  | 0, _ => rfl
  | n + 1, j => congrArg (· + 1) (lw_vs_len xs i n (j + 1))
section LWP
variable {l : Launch} {p : Program} {e : Env} {s : State} {m : MethodId} {args : Array Value} {below : List Frame} {meth : Method} {c : Code} {A0 : Nat → Prop} {Q : State → Prop} {H : Heap} {locs : List Loc} {ls : Array Slot} {cells slots : Nat}
theorem lw_push {b L : Nat} {xs : Nat → Int32} (hL : L ≤ 3072) (hx : p.tables.exec = Jvm.exec) (hb : c.code = code) (hX : va_X b L xs s s.heap) (hbl : b < s.heap.size) (hbA : ¬ A0 b) (hS : va_S A0 s.heap H locs) {i x1 x2 : Nat} (hl : lv_has ls 4 [(0, .ref b), (1, .ref x1), (2, .ref x2), (3, .int (nI i))]) :
    ∀ (n pc j : Nat) (rest : List Value), lc_push n pc j = true → i + j + n ≤ L → W p l e room_1 s m args below meth c H locs cells slots Q (F0 m (pc + 5 * n) ls (((lw_vs xs i n j).map Value.int).reverse ++ rest)) → W p l e room_1 s m args below meth c H locs cells slots Q (F0 m pc ls rest) := by
  intro n
  induction n with
  | zero => intro pc j rest _ _ k; exact k
  | succ n ih =>
    intro pc j rest hok hi k
    simp only [lc_push, Bool.and_eq_true, decide_eq_true_eq] at hok
    obtain ⟨d0, d1, d2, d3, d4, d5⟩ := hok
    refine lv_aload_n hx hb d0 rfl (lv_at hl 0 rfl) ?_
    refine lv_iload_n hx hb d1 rfl (lv_at hl 3 rfl) ?_
    refine lv_iconst (v := nI j) hx hb d2 rfl ?_
    refine lv_iadd hx hb d3 ?_
    rw [nI_add]
    refine va_sld hx hb hX hbl hbA hS (vp_in_nI (show i + j < L by omega) (by omega)) d4 ?_
    rw [nI_clamp (show i + j < 2 ^ 31 by omega)]
    refine ih (pc + 5) (j + 1) (.int (xs (i + j)) :: rest) d5 (by omega) ?_
    have e1 : pc + 5 + 5 * n = pc + 5 * (n + 1) := by omega
    have e2 : ((lw_vs xs i n (j + 1)).map Value.int).reverse ++ (.int (xs (i + j)) :: rest) = ((lw_vs xs i (n + 1) j).map Value.int).reverse ++ rest := by simp [lw_vs]
    rw [e1, e2]
    exact k
end LWP
