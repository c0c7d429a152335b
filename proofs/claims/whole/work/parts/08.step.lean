/-! SOUNDNESS, second part: an instruction -/
def rv_ws (M : rv_M) : List Jvm.Cond := .code M.1 M.2.1 M.2.2.1 M.2.2.2.1 :: rv_T
def rv_rm (M : rv_M) : Room := { frames := M.2.2.2.2.2.1, cells := 0, slots := 0, locals := M.2.2.2.2.2.2.1 }
def rv_Qc (dC : Nat → ClassId) (dI : Nat → Nat → Nat) (dA : Nat → ClassId) (ad : Nat → Nat) (fv : Value) (N : Nat) (q : rv_X) : Array Value → State → Outcome → State → Prop := fun _ st oc t =>
  oc = .returned (q.1.map (rv_cv ad fv)) ∧ va_P (dC, dI) vwCl (rv_cw ad fv dA q.2) t.heap ∧ q.2.length = N ∧ va_F (rv_A ad N) st t
def rv_Pc (dC : Nat → ClassId) (dI : Nat → Nat → Nat) (dA : Nat → ClassId) (ad : Nat → Nat) (fv : Value) (N : Nat) (as : List Value) (w : rv_W) : Array Value → State → Prop :=
  va_Pc (as.map (rv_cv ad fv)) (fun U => va_P (dC, dI) vwCl (rv_cw ad fv dA w) U.heap ∧ va_K (dC, dI) vwCl (rv_tys dA) U ∧ rv_env ad fv (rv_A ad N) U U.heap ∧ rv_strs ad U)
def rv_ctx (dC : Nat → ClassId) (dI : Nat → Nat → Nat) (dA : Nat → ClassId) (ad : Nat → Nat) (fv : Value) (N : Nat) (M : rv_M) (p : Program) (s : State) (m : MethodId) (args : Array Value) (meth : Method) (c : Code) : Prop :=
  p.tables.exec = Jvm.exec ∧ c.code = M.2.1 ∧ meth.sig.returnType = M.2.2.2.1 ∧ c.maxLocals = M.2.2.1 ∧ s.vm.findClass M.1.cls = some m.cls ∧ (∀ w ∈ rv_T, w.before args s = true) ∧ meth.locks = false ∧ va_K (dC, dI) vwCl (rv_tys dA) s ∧ rv_env ad fv (rv_A ad N) s s.heap ∧ rv_strs ad s
theorem rv_oi_some {o : Option Value} {K : Int32 → Option rv_X} {r : rv_X} (h : rv_oi o K = some r) : ∃ x, o = some (.int x) ∧ K x = some r := by
  unfold rv_oi at h; split at h
  · exact ⟨_, rfl, h⟩
  · cases h
theorem rv_ol_some {o : Option Value} {K : Int64 → Option rv_X} {r : rv_X} (h : rv_ol o K = some r) : ∃ x, o = some (.long x) ∧ K x = some r := by
  unfold rv_ol at h; split at h
  · exact ⟨_, rfl, h⟩
  · cases h
theorem rv_oa_some {o : Option Value} {K : Nat → Option rv_X} {r : rv_X} (h : rv_oa o K = some r) : ∃ (x : Nat), o = some (.ref x) ∧ K x = some r := by
  unfold rv_oa at h; split at h
  · exact ⟨_, rfl, h⟩
  · cases h
theorem rv_i1_some {st : List Value} {K : Int32 → List Value → Option rv_X} {r : rv_X} (h : rv_i1 st K = some r) : ∃ x t, st = .int x :: t ∧ K x t = some r := by
  unfold rv_i1 at h; split at h
  · exact ⟨_, _, rfl, h⟩
  · cases h
theorem rv_l1_some {st : List Value} {K : Int64 → List Value → Option rv_X} {r : rv_X} (h : rv_l1 st K = some r) : ∃ x t, st = .long x :: t ∧ K x t = some r := by
  unfold rv_l1 at h; split at h
  · exact ⟨_, _, rfl, h⟩
  · cases h
theorem rv_a1_some {st : List Value} {K : Nat → List Value → Option rv_X} {r : rv_X} (h : rv_a1 st K = some r) : ∃ (x : Nat) (t : List Value), st = .ref x :: t ∧ K x t = some r := by
  unfold rv_a1 at h; split at h
  · exact ⟨_, _, rfl, h⟩
  · cases h
theorem rv_i2_some {st : List Value} {K : Int32 → Int32 → List Value → Option rv_X} {r : rv_X} (h : rv_i2 st K = some r) : ∃ x y t, st = .int y :: .int x :: t ∧ K x y t = some r := by
  unfold rv_i2 at h; split at h
  · exact ⟨_, _, _, rfl, h⟩
  · cases h
theorem rv_l2_some {st : List Value} {K : Int64 → Int64 → List Value → Option rv_X} {r : rv_X} (h : rv_l2 st K = some r) : ∃ x y t, st = .long y :: .long x :: t ∧ K x y t = some r := by
  unfold rv_l2 at h; split at h
  · exact ⟨_, _, _, rfl, h⟩
  · cases h
theorem rv_li_some {st : List Value} {K : Int64 → Int32 → List Value → Option rv_X} {r : rv_X} (h : rv_li st K = some r) : ∃ x y t, st = .int y :: .long x :: t ∧ K x y t = some r := by
  unfold rv_li at h; split at h
  · exact ⟨_, _, _, rfl, h⟩
  · cases h
theorem rv_ai_some {st : List Value} {K : Nat → Int32 → List Value → Option rv_X} {r : rv_X} (h : rv_ai st K = some r) : ∃ (x : Nat) (y : Int32) (t : List Value), st = .int y :: .ref x :: t ∧ K x y t = some r := by
  unfold rv_ai at h; split at h
  · exact ⟨_, _, _, rfl, h⟩
  · cases h
theorem rv_iaR_some {st : List Value} {K : Nat → Int32 → List Value → Option rv_X} {r : rv_X} (h : rv_iaR st K = some r) : ∃ (x : Nat) (y : Int32) (t : List Value), st = .int y :: .ref x :: t ∧ K x y t = some r := by
  unfold rv_iaR at h; split at h
  · exact ⟨_, _, _, rfl, h⟩
  · cases h
theorem rv_aa_some {st : List Value} {K : Nat → Nat → List Value → Option rv_X} {r : rv_X} (h : rv_aa st K = some r) : ∃ (x y : Nat) (t : List Value), st = .ref y :: .ref x :: t ∧ K x y t = some r := by
  unfold rv_aa at h; split at h
  · exact ⟨_, _, _, rfl, h⟩
  · cases h
theorem rv_aii_some {st : List Value} {K : Nat → Int32 → Int32 → List Value → Option rv_X} {r : rv_X} (h : rv_aii st K = some r) : ∃ (x : Nat) (y z : Int32) (t : List Value), st = .int z :: .int y :: .ref x :: t ∧ K x y z t = some r := by
  unfold rv_aii at h; split at h
  · exact ⟨_, _, _, _, rfl, h⟩
  · cases h
theorem rv_cp_some {st : List Value} {K : Nat → Int32 → Nat → Int32 → Int32 → List Value → Option rv_X} {r : rv_X} (h : rv_cp st K = some r) : ∃ (s : Nat) (sp : Int32) (d : Nat) (dp n : Int32) (t : List Value), st = .int n :: .int dp :: .ref d :: .int sp :: .ref s :: t ∧ K s sp d dp n t = some r := by
  unfold rv_cp at h; split at h
  · exact ⟨_, _, _, _, _, _, rfl, h⟩
  · cases h
theorem rv_end_some {st : List Value} {o : Option rv_X} {r : rv_X} (h : rv_end st o = some r) : st = [] ∧ o = some r := by
  unfold rv_end at h; split at h
  · exact ⟨rfl, h⟩
  · cases h
theorem rv_cond_s {b : Bool} {o : Option rv_X} {r : rv_X} (h : cond b o none = some r) : b = true ∧ o = some r := by
  cases b
  · cases h
  · exact ⟨rfl, h⟩
theorem rv_if_s {b : Bool} {o : Option rv_X} {r : rv_X} (h : rv_if b o none = some r) : b = true ∧ o = some r := by
  cases b
  · cases h
  · exact ⟨rfl, h⟩
theorem rv_cond_n {b : Bool} {o : Option rv_X} {r : rv_X} (h : cond b none o = some r) : b = false ∧ o = some r := by
  cases b
  · exact ⟨rfl, h⟩
  · cases h
theorem rv_bind_s {α : Type} {o : Option α} {K : α → Option rv_X} {r : rv_X} (h : o.bind K = some r) : ∃ x, o = some x ∧ K x = some r := by
  cases o with
  | none => cases h
  | some x => exact ⟨x, rfl, h⟩
theorem rv_ix_some {α : Type} {xs : List α} {i : Int32} {x : α} (h : rv_ix xs i = some x) : vp_in i xs.length ∧ xs[i.toNatClampNeg]? = some x := by
  unfold rv_ix at h
  split at h
  · cases h
  · refine ⟨?_, h⟩
    rename_i h0
    rintro (q | q)
    · exact h0 q
    · exact absurd (List.getElem?_eq_some_iff.mp h).1 (by omega)
theorem rv_ints_some {w : rv_W} {a : Nat} {xs : List Int32} (h : rv_ints w a = some xs) : w[a]? = some (.inl (0, .inl xs)) := by
  unfold rv_ints at h; split at h
  · rename_i h1; cases h; exact h1
  · cases h
theorem rv_byts_some {w : rv_W} {a : Nat} {xs : List Int32} (h : rv_byts w a = some xs) : w[a]? = some (.inl (1, .inl xs)) := by
  unfold rv_byts at h; split at h
  · rename_i h1; cases h; exact h1
  · cases h
theorem rv_refs_some {w : rv_W} {a : Nat} {xs : List (Option Nat)} (h : rv_refs w a = some xs) : w[a]? = some (.inl (2, .inr xs)) := by
  unfold rv_refs at h; split at h
  · rename_i h1; cases h; exact h1
  · cases h
theorem rv_obj_some {w : rv_W} {a ci : Nat} {fs : List Value} (h : rv_obj w a ci = some fs) : w[a]? = some (.inr (ci, fs)) := by
  unfold rv_obj at h; split at h
  · rename_i h1
    split at h
    · rename_i h2; cases h; subst h2; exact h1
    · cases h
  · cases h
theorem rv_ldFI_some {w : rv_W} {a ci k : Nat} {x : Int32} (h : rv_ldFI w a ci k = some x) : ∃ fs, w[a]? = some (.inr (ci, fs)) ∧ fs[k]? = some (.int x) := by
  unfold rv_ldFI at h
  cases hf : rv_obj w a ci with
  | none => rw [hf] at h; cases h
  | some fs =>
    rw [hf] at h
    simp only [Option.bind_some] at h
    split at h
    · rename_i h1; cases h; exact ⟨fs, rv_obj_some hf, h1⟩
    · cases h
theorem rv_ldFR_some {w : rv_W} {a ci k : Nat} {x : Nat} (h : rv_ldFR w a ci k = some x) : ∃ fs, w[a]? = some (.inr (ci, fs)) ∧ fs[k]? = some (.ref x) := by
  unfold rv_ldFR at h
  cases hf : rv_obj w a ci with
  | none => rw [hf] at h; cases h
  | some fs =>
    rw [hf] at h
    simp only [Option.bind_some] at h
    split at h
    · rename_i h1; cases h; exact ⟨fs, rv_obj_some hf, h1⟩
    · cases h
theorem rv_stF_some {w w' : rv_W} {a ci k : Nat} {v : Value} (h : rv_stF w a ci k v = some w') : ∃ fs, w[a]? = some (.inr (ci, fs)) ∧ k < fs.length ∧ w' = w.set a (.inr (ci, fs.set k v)) := by
  unfold rv_stF at h
  cases hf : rv_obj w a ci with
  | none => rw [hf] at h; cases h
  | some fs =>
    rw [hf] at h
    simp only [Option.bind_some] at h
    split at h
    · rename_i h1; cases h; exact ⟨fs, rv_obj_some hf, h1, rfl⟩
    · cases h
theorem rv_stI_some {w w' : rv_W} {a : Nat} {i x : Int32} (h : rv_stI w a i x = some w') : ∃ xs, w[a]? = some (.inl (0, .inl xs)) ∧ vp_in i xs.length ∧ w' = w.set a (.inl (0, .inl (xs.set i.toNatClampNeg x))) := by
  unfold rv_stI at h
  cases hf : rv_ints w a with
  | none => rw [hf] at h; cases h
  | some xs =>
    rw [hf] at h
    simp only [Option.bind_some] at h
    cases hi : rv_ix xs i with
    | none => rw [hi] at h; cases h
    | some y => rw [hi] at h; cases h; exact ⟨xs, rv_ints_some hf, (rv_ix_some hi).1, rfl⟩
theorem rv_stB_some {w w' : rv_W} {a : Nat} {i x : Int32} (h : rv_stB w a i x = some w') : ∃ xs, w[a]? = some (.inl (1, .inl xs)) ∧ vp_in i xs.length ∧ w' = w.set a (.inl (1, .inl (xs.set i.toNatClampNeg x.toInt8.toInt32))) := by
  unfold rv_stB at h
  cases hf : rv_byts w a with
  | none => rw [hf] at h; cases h
  | some xs =>
    rw [hf] at h
    simp only [Option.bind_some] at h
    cases hi : rv_ix xs i with
    | none => rw [hi] at h; cases h
    | some y => rw [hi] at h; cases h; exact ⟨xs, rv_byts_some hf, (rv_ix_some hi).1, rfl⟩
theorem rv_upd {xs : List Int32} {k : Nat} (hk : k < xs.length) (x : Int32) : upd (fun j => xs.getD j 0) k x = fun j => (xs.set k x).getD j 0 := by
  funext j
  by_cases h : j = k
  · subst h
    simp [upd, hk]
  · have h' : ¬ k = j := fun q => h q.symm
    simp [upd, h, List.getD_eq_getElem?_getD, List.getElem?_set, h']
theorem rv_in_lt {i : Int32} {n : Nat} (h : vp_in i n) : i.toNatClampNeg < n := Nat.not_le.mp fun q => h (Or.inr q)
theorem rv_tg_eq {pc : Nat} {off : Int} (h : rv_tg pc off = true) : (pc : Int) + off = (rv_to pc off : Int) := by
  have h := of_decide_eq_true h
  unfold rv_to
  omega
theorem rv_eq_t {x y : Int32} (h : x = y) : rv_eq x y = true := @decide_eq_true _ (Classical.propDecidable _) h
theorem rv_eq_f {x y : Int32} (h : ¬ x = y) : rv_eq x y = false := @decide_eq_false _ (Classical.propDecidable _) h
theorem rv_eq_n {x y : Int32} (h : rv_eq x y = false) : ¬ x = y := @of_decide_eq_false _ (Classical.propDecidable _) h
theorem rv_eqL_n {x y : Int64} (h : rv_eqL x y = false) : ¬ x = y := @of_decide_eq_false _ (Classical.propDecidable _) h
theorem rv_toN {x : Int32} {n : Nat} (hn : n < 2 ^ 31) (h : x.toUInt32.toNat ≤ n) : ∃ j : Nat, j ≤ n ∧ x = nI j := by
  refine ⟨x.toUInt32.toNat, h, ?_⟩
  apply Int32.toBitVec_inj.mp
  apply BitVec.eq_of_toNat_eq
  rw [pk_tn (by omega)]
  rfl
theorem rv_bz_or {x : Int32} (h : rv_bz x = true) : x = 0 ∨ x = 1 := by
  obtain ⟨j, hj, rfl⟩ := rv_toN (n := 1) (by decide) (Nat.le_of_ble_eq_true h)
  rcases (show j = 0 ∨ j = 1 by omega) with rfl | rfl
  · exact Or.inl rfl
  · exact Or.inr rfl
theorem rv_tsw_some {F : Nat → Option rv_X} {pc : Nat} {x : Int32} {d : Int} {r : rv_X} : ∀ {os : List Int} {lo : Int}, rv_tsw F pc x d lo os = some r →
    (∃ (j : Nat) (o : Int), os[j]? = some o ∧ x = Int32.ofInt (lo + j) ∧ F (rv_to pc o) = some r) ∨ ((∀ j : Nat, j < os.length → ¬ x = Int32.ofInt (lo + j)) ∧ F (rv_to pc d) = some r)
  | [], lo, h => Or.inr ⟨(fun j hj => absurd hj (Nat.not_lt_zero j)), h⟩
  | o :: os, lo, h => by
    rw [rv_tsw] at h
    by_cases hx : x = Int32.ofInt lo
    · rw [rv_eq_t hx] at h
      exact Or.inl ⟨0, o, rfl, by rw [hx]; congr 1; omega, h⟩
    · rw [rv_eq_f hx] at h
      rcases rv_tsw_some (os := os) (lo := lo + 1) h with ⟨j, o', h1, h2, h3⟩ | ⟨h1, h2⟩
      · exact Or.inl ⟨j + 1, o', h1, by rw [h2]; congr 1; omega, h3⟩
      · refine Or.inr ⟨fun j hj => ?_, h2⟩
        cases j with
        | zero => intro q; exact hx (by rw [q]; congr 1; omega)
        | succ j => intro q; exact h1 j (Nat.lt_of_succ_lt_succ hj) (by rw [q]; congr 1; omega)
theorem rv_ofI {z : Int} (h1 : -1000 ≤ z) (h2 : z ≤ 1001) : (Int32.ofInt z).toInt = z := Int32.toInt_ofInt_of_le (by omega) (by omega)
theorem rv_lsw_some {F : Nat → Option rv_X} {pc : Nat} {x : Int32} {d : Int} {r : rv_X} : ∀ {os : List (Int × Int)}, (∀ q ∈ os, -1000 ≤ q.1 ∧ q.1 ≤ 1000) → rv_lsw F pc x d os = some r →
    ∃ off, Op.lookupswitch.offset os d x.toInt = off ∧ F (rv_to pc off) = some r ∧ (off = d ∨ ∃ q ∈ os, q.2 = off)
  | [], _, h => ⟨d, rfl, h, Or.inl rfl⟩
  | (k, o) :: os, hk, h => by
    rw [rv_lsw] at h
    have hkk := hk (k, o) List.mem_cons_self
    have hz : (Int32.ofInt k).toInt = k := rv_ofI hkk.1 (by have := hkk.2; omega)
    by_cases hx : x = Int32.ofInt k
    · rw [rv_eq_t hx] at h
      refine ⟨o, ?_, h, Or.inr ⟨(k, o), List.mem_cons_self, rfl⟩⟩
      rw [Op.lookupswitch.offset_cons, if_pos]
      rw [hx, hz]
    · rw [rv_eq_f hx] at h
      obtain ⟨off, h1, h2, h3⟩ := rv_lsw_some (os := os) (fun q hq => hk q (List.mem_cons_of_mem _ hq)) h
      refine ⟨off, ?_, h2, ?_⟩
      · rw [lv_osw hx hz]; exact h1
      · rcases h3 with h3 | ⟨q, hq, h3⟩
        · exact Or.inl h3
        · exact Or.inr ⟨q, List.mem_cons_of_mem _ hq, h3⟩
theorem rv_cl_ty : ∀ (ci : Nat) (q : vw_C), vwCl[ci]? = some q → ∃ ty0 : Nat → FieldType, (∀ k, k < q.2.2 → parseFieldDescriptor (q.2.1 k).2.2.1 = some (ty0 k)) ∧ ∀ a, a < q.2.2 → ∀ b, b < q.2.2 → a ≠ b → (q.2.1 a).2.1 ≠ (q.2.1 b).2.1
  | 0, q, h => by cases h; exact ⟨tyX1, tyX1_ok, nmX1⟩
  | 1, q, h => by cases h; exact ⟨tyX2, tyX2_ok, nmX2⟩
  | 2, q, h => by cases h; exact ⟨tyX3, tyX3_ok, nmX3⟩
  | 3, q, h => by cases h; exact ⟨tyX4, tyX4_ok, nmX4⟩
  | 4, q, h => by cases h; exact ⟨tyX5, tyX5_ok, nmX5⟩
  | n + 5, q, h => by simp [vwCl] at h
theorem rv_fl_some {own : String} {i a b pos : Nat} (h : rv_fl own i a b pos = true) : ∃ q : vw_C, vwCl[a]? = some q ∧ b / 10 < q.2.2 ∧ Jvm.Cond.fieldLink own i (q.2.1 (b / 10)).1 (q.2.1 (b / 10)).2.1 (q.2.1 (b / 10)).2.2.1 ∈ rv_T := by
  unfold rv_fl at h; split at h
  · rename_i q hq
    simp only [Bool.and_eq_true, decide_eq_true_eq] at h
    exact ⟨q, hq, h.1, rv_w_in h.2⟩
  · cases h
theorem rv_fp_some {a b : Nat} {ty : FieldType} {q : vw_C} (hq : vwCl[a]? = some q) (h : rv_fp a b ty = true) : (q.2.1 (b / 10)).2.2.2 = false ∧ parseFieldDescriptor (q.2.1 (b / 10)).2.2.1 = some ty := by
  unfold rv_fp at h
  rw [hq] at h
  simp only [Bool.and_eq_true, decide_eq_true_eq] at h
  exact h
theorem rv_cpy_some {w w' : rv_W} {a d : Nat} {sp dp n : Int32} (h : rv_cpy w a sp d dp n = some w') : ∃ xs ys, w[a]? = some (.inl (0, .inl xs)) ∧ w[d]? = some (.inl (0, .inl ys)) ∧ (0 ≤ sp ∧ 0 ≤ dp ∧ 0 ≤ n ∧ sp.toNatClampNeg + n.toNatClampNeg ≤ xs.length ∧ dp.toNatClampNeg + n.toNatClampNeg ≤ ys.length) ∧
    w' = w.set d (.inl (0, .inl (rv_tab ys.length (va_cpy (fun j => xs.getD j 0) (fun j => ys.getD j 0) sp.toNatClampNeg dp.toNatClampNeg n.toNatClampNeg)))) := by
  unfold rv_cpy at h
  cases hx : rv_ints w a with
  | none => rw [hx] at h; cases h
  | some xs =>
    rw [hx] at h
    simp only [Option.bind_some] at h
    cases hy : rv_ints w d with
    | none => rw [hy] at h; cases h
    | some ys =>
      rw [hy] at h
      simp only [Option.bind_some] at h
      split at h
      · rename_i hc
        cases h
        exact ⟨xs, ys, rv_ints_some hx, rv_ints_some hy, hc, rfl⟩
      · cases h
