/-! SOUNDNESS, the end: what the abstract machine gives is a contract -/
theorem rv_lk_mem : ∀ {cd : rv_C} {pc : Nat} {x : rv_I}, rv_lk cd pc = some x → (pc, x) ∈ cd
  | [], pc, x, h => by cases h
  | q :: l, pc, x, h => by
    rw [rv_lk] at h
    cases hb : Nat.beq q.1 pc with
    | true =>
      rw [hb] at h
      have h : q.2 = x := Option.some.inj h
      have h1 : q.1 = pc := Nat.eq_of_beq_eq_true hb
      rw [← h, ← h1]
      exact List.mem_cons_self
    | false =>
      rw [hb] at h
      exact List.mem_cons_of_mem _ (rv_lk_mem h)
def rv_RT (l : Launch) (dC : Nat → ClassId) (dI : Nat → Nat → Nat) (dA : Nat → ClassId) (ad : Nat → Nat) (fv : Value) (N n : Nat) : Prop := ∀ (M : rv_M), (∃ q, rv_okM M q = true) → ∀ (p : Program) (e : Env) (s : State) (m : MethodId) (args : Array Value) (below : List Frame) (meth : Method) (c : Code) (r : rv_X),
  rv_ctx dC dI dA ad fv N M p s m args meth c → rv_HG l dC dI dA ad fv N M p e s m args below meth c r (rv_go n M.2.2.2.2.2.2.2)
theorem rv_RT_E {l : Launch} {dC : Nat → ClassId} {dI : Nat → Nat → Nat} {dA : Nat → ClassId} {ad : Nat → Nat} {fv : Value} {N n : Nat} (hfv : fv.category = 1) (hRT : rv_RT l dC dI dA ad fv N n) : rv_HE l dC dI dA ad fv N (rv_E1 (rv_go n)) := by
  intro k as w q h hw
  unfold rv_E1 at h
  cases hM : rv_ms[k]? with
  | none => rw [hM] at h; cases h
  | some M =>
    rw [hM] at h
    simp only [Option.bind_some] at h
    obtain ⟨h1, h2⟩ := rv_cond_s h
    have h1 := (Bool.and_eq_true _ _).mp h1
    have hok := rv_ms_ok k M hM
    refine ⟨M, rfl, h1.1, ?_⟩
    refine Met.ofW (cc := M.2.1) (maxL := M.2.2.1) (ret := M.2.2.2.1) (rv_okM_some hok).2.2.2.2.2.2.1 rfl ?_
    intro p e s m args below meth c s₁ B hml hv
    obtain ⟨rfl, hP, hK, hEn, hSt⟩ := hv
    have hts0 := atoms_spec (ws := rv_ws M) B.pre
    have hl := lv_entry (as.map (rv_cv ad fv)) (n := M.2.2.1) (by rw [rv_sl_len ad hfv]; exact Nat.le_of_ble_eq_true h1.2)
    rw [lg_entry_eq]
    exact hRT M hok p e s m _ below meth c q ⟨B.exec, B.bytes, B.returns, hml, findClass_of_methodNamed B.named, fun w hw => hts0 w (List.mem_cons_of_mem _ hw), B.notSynchronized, hK, hEn, hSt⟩ 0 (rv_ent M.2.2.1 as) [] w s.heap [] _ h2 hw hP va_S.rf
      ⟨hl.1, hl.2.1, fun i v hi => hl.2.2 (i, rv_cv ad fv v) (by have := rv_ent_mem ad hfv as M.2.2.1 0 i v hi; rwa [Nat.add_zero] at this)⟩
theorem rv_RT_all {l : Launch} {dC : Nat → ClassId} {dI : Nat → Nat → Nat} {dA : Nat → ClassId} {ad : Nat → Nat} {fv : Value} {N : Nat} (hinj : ∀ i j, i < N → j < N → ad i = ad j → i = j) (hN : N ≤ 1000) (hfv : fv.category = 1) : ∀ n, rv_RT l dC dI dA ad fv N n := by
  intro n
  induction n with
  | zero => intro M hok p e s m args below meth c r C0 pc lv st w H locs ls h; cases h
  | succ n ih =>
    intro M hok p e s m args below meth c r C0 pc lv st w H locs ls h hw hP hS hl
    rw [rv_go_succ] at h
    cases hx : rv_lk M.2.2.2.2.2.2.2 pc with
    | none => rw [hx] at h; cases h
    | some x =>
      rw [hx] at h
      have hI := (rv_okM_some hok).2.2.2.2.2.2.2 (pc, x) (rv_lk_mem hx)
      obtain ⟨i, len, a, b, pos, k, dead⟩ := x
      have h : rv_stepI _ _ a b k pc (rv_kill dead lv) st w i = some r := h
      have hI := (Bool.and_eq_true _ _).mp hI
      exact rv_stepW hinj hN hfv C0 (ih M hok p e s m args below meth c r C0) (rv_RT_E hfv ih) hw hP hS (rv_lh_kill _ hl) i (of_decide_eq_true hI.1) hI.2 h
/-- THE CONTRACT out of the abstract machine -/
theorem rv_met {l : Launch} {dC : Nat → ClassId} {dI : Nat → Nat → Nat} {dA : Nat → ClassId} {ad : Nat → Nat} {fv : Value} {N : Nat} (hinj : ∀ i j, i < N → j < N → ad i = ad j → i = j) (hN : N ≤ 1000) (hfv : fv.category = 1) {k : Nat} {as : List Value} {w : rv_W} {q : rv_X} (h : rv_EV k as w = some q) (hw : w.length = N) {M : rv_M} (hM : rv_ms[k]? = some M) :
    Met l M.1 (rv_ws M) (rv_rm M) (rv_Pc dC dI dA ad fv N as w) (rv_Qc dC dI dA ad fv N q) 0 0 (rv_A ad N) := by
  obtain ⟨n, hn⟩ := rv_EV_iff h
  obtain ⟨M', hM', -, hMet⟩ := rv_RT_E hfv (rv_RT_all (l := l) (dC := dC) (dI := dI) (dA := dA) hinj hN hfv n) k as w q hn hw
  rw [hM] at hM'
  cases hM'
  exact hMet
