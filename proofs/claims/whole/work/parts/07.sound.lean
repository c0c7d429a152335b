/-! SOUNDNESS, first part: cells, locals, surroundings -/
def rv_cv (ad : Nat → Nat) (fv : Value) : Value → Value
  | .ref i => .ref (ad i)
  | .retAddr _ => fv
  | v => v
def rv_ce (ad : Nat → Nat) (fv : Value) (dA : Nat → ClassId) : rv_E → va_E
  | .inl (t, .inl xs) => .inl (dA t, (xs.length, .inl (fun j => xs.getD j 0)))
  | .inl (t, .inr rs) => .inl (dA t, (rs.length, .inr (.inr (.inr (.inr (fun j => (rs.getD j none).map ad))))))
  | .inr (ci, fs) => .inr (ci, fs.map (rv_cv ad fv))
def rv_cw (ad : Nat → Nat) (fv : Value) (dA : Nat → ClassId) (w : rv_W) : va_W := w.mapIdx (fun i e => (ad i, rv_ce ad fv dA e))
def rv_tys (dA : Nat → ClassId) : List (ClassId × FieldType) := [(dA 0, .int), (dA 1, .byte), (dA 2, .object "TubSteps$Sheet")]
def rv_A (ad : Nat → Nat) (N : Nat) : Nat → Prop := fun q => ∃ i, i < N ∧ q = ad i
def rv_env (ad : Nat → Nat) (fv : Value) (A : Nat → Prop) (U : State) (H : Heap) : Prop :=
  vk_S 14 (rv_strB.map List.length) rv_strB (fun i => ad (1000 + i)) (fun i => ad (2000 + i)) A U H ∧
  (va_Z "TubSteps$Kinds" "ABOVE" "[I" (.ref (ad 3000)) A U H ∧ va_T .int (ad 3000) 7 (fun j => .int (rv_above.getD j 0)) A U H) ∧
  va_Z "java/lang/String" "COMPACT_STRINGS" "Z" (.int 1) A U H ∧ va_Z "jdk/internal/util/Preconditions" "SIOOBE_FORMATTER" "Ljava/util/function/BiFunction;" fv A U H
def rv_strs (ad : Nat → Nat) (U : State) : Prop := ∀ (i : Nat) (q : Nat × String), rv_strW[i]? = some q → vk_R "TubSteps$TextReader" q.1 q.2 (ad (1000 + i)) U
theorem rv_env.moved {ad : Nat → Nat} {fv : Value} {A : Nat → Prop} {u U : State} {H : Heap} (hvm : u.vm.Alike U.vm) (h : rv_env ad fv A u H) : rv_env ad fv A U H :=
  ⟨vk_S.moved hvm h.1, ⟨va_Z.moved hvm h.2.1.1, va_T.moved hvm h.2.1.2⟩, va_Z.moved hvm h.2.2.1, va_Z.moved hvm h.2.2.2⟩
theorem rv_env.kept {ad : Nat → Nat} {fv : Value} {A : Nat → Prop} {U : State} {H H1 : Heap} (h : rv_env ad fv A U H) (hq : ∀ a : Nat, a < H.size → ¬ A a → H1[a]? = H[a]?) : rv_env ad fv A U H1 :=
  ⟨h.1.kept hq, ⟨h.2.1.1.kept hq, h.2.1.2.kept hq⟩, h.2.2.1.kept hq, h.2.2.2.kept hq⟩
theorem rv_env.narrow {ad : Nat → Nat} {fv : Value} {A B : Nat → Prop} {U : State} {H : Heap} (h : rv_env ad fv A U H) (hAB : ∀ q, B q → A q) : rv_env ad fv B U H :=
  ⟨h.1.narrow hAB, ⟨h.2.1.1.narrow hAB, h.2.1.2.narrow hAB⟩, h.2.2.1.narrow hAB, h.2.2.2.narrow hAB⟩
theorem rv_cw_get (ad : Nat → Nat) (fv : Value) (dA : Nat → ClassId) (w : rv_W) (k : Nat) : (rv_cw ad fv dA w)[k]? = (w[k]?).map (fun e => (ad k, rv_ce ad fv dA e)) := by
  unfold rv_cw
  rw [List.getElem?_mapIdx]
theorem rv_cw_at {ad : Nat → Nat} {fv : Value} {dA : Nat → ClassId} {w : rv_W} {k : Nat} {x : rv_E} (h : w[k]? = some x) : (rv_cw ad fv dA w)[k]? = some (ad k, rv_ce ad fv dA x) := by
  rw [rv_cw_get, h]
  rfl
theorem rv_cw_set (ad : Nat → Nat) (fv : Value) (dA : Nat → ClassId) (w : rv_W) (k : Nat) (x : rv_E) : rv_cw ad fv dA (w.set k x) = (rv_cw ad fv dA w).set k (ad k, rv_ce ad fv dA x) := by
  apply List.ext_getElem?
  intro j
  have hl : (rv_cw ad fv dA w).length = w.length := by simp [rv_cw]
  rw [rv_cw_get, List.getElem?_set, List.getElem?_set, hl]
  by_cases hj : k = j
  · subst hj
    by_cases hk : k < w.length
    · simp [hk]
    · simp [hk]
  · simp [hj, rv_cw_get]
theorem rv_cw_D {ad : Nat → Nat} {N : Nat} (hinj : ∀ i j, i < N → j < N → ad i = ad j → i = j) (fv : Value) (dA : Nat → ClassId) {w : rv_W} (hN : w.length = N) : va_D (rv_A ad N) (rv_cw ad fv dA w) := by
  have key : ∀ (k : Nat) (q : Nat × va_E), (rv_cw ad fv dA w)[k]? = some q → k < N ∧ q.1 = ad k := by
    intro k q hk
    rw [rv_cw_get] at hk
    cases hw : w[k]? with
    | none => rw [hw] at hk; cases hk
    | some x =>
      rw [hw] at hk
      cases hk
      exact ⟨by rw [← hN]; exact (List.getElem?_eq_some_iff.mp hw).1, rfl⟩
  refine ⟨fun i j p q hi hj hpq => ?_, fun k q hk => ?_⟩
  · obtain ⟨h1, h2⟩ := key i p hi
    obtain ⟨h3, h4⟩ := key j q hj
    exact hinj i j h1 h3 (by rw [← h2, ← h4]; exact hpq)
  · obtain ⟨h1, h2⟩ := key k q hk
    exact ⟨k, h1, h2⟩
/-! locals -/
def rv_lh (ad : Nat → Nat) (fv : Value) (ls : Array Slot) (n : Nat) (lv : rv_L) : Prop := ls.size = n ∧ lv_wf ls ∧ ∀ i v, rv_get lv i = some v → ls[i]? = some (.val (rv_cv ad fv v))
def rv_la (ad : Nat → Nat) (fv : Value) (lv : rv_L) : List (Nat × Value) := (List.range lv.length).filterMap (fun i => (rv_get lv i).map (fun v => (i, rv_cv ad fv v)))
theorem rv_get_eq : ∀ (l : rv_L) (i : Nat), rv_get l i = (l[i]?).bind id
  | [], i => by simp [rv_get]
  | x :: l, 0 => by simp [rv_get]
  | x :: l, i + 1 => by simp [rv_get, rv_get_eq l i]
theorem rv_get_lt {l : rv_L} {i : Nat} {v : Value} (h : rv_get l i = some v) : i < l.length := by
  rw [rv_get_eq] at h
  cases hi : l[i]? with
  | none => rw [hi] at h; cases h
  | some x => exact (List.getElem?_eq_some_iff.mp hi).1
theorem rv_get_set (l : rv_L) (i j : Nat) (x : Option Value) : rv_get (l.set i x) j = if i = j then (if j < l.length then x else none) else rv_get l j := by
  rw [rv_get_eq, rv_get_eq, List.getElem?_set]
  by_cases h : i = j
  · subst h
    by_cases h2 : i < l.length
    · simp [h2]
    · simp [h2]
  · simp [h]
theorem rv_la_has {ad : Nat → Nat} {fv : Value} {ls : Array Slot} {n : Nat} {lv : rv_L} (h : rv_lh ad fv ls n lv) : lv_has ls n (rv_la ad fv lv) := by
  refine ⟨h.1, h.2.1, fun q hq => ?_⟩
  obtain ⟨i, -, hi⟩ := List.mem_filterMap.mp hq
  cases hg : rv_get lv i with
  | none => rw [hg] at hi; cases hi
  | some v =>
    rw [hg] at hi
    cases hi
    exact h.2.2 i v hg
theorem rv_la_mem {ad : Nat → Nat} {fv : Value} {lv : rv_L} {i : Nat} {v : Value} (h : rv_get lv i = some v) : (i, rv_cv ad fv v) ∈ rv_la ad fv lv :=
  List.mem_filterMap.mpr ⟨i, List.mem_range.mpr (rv_get_lt h), by rw [h]; rfl⟩
theorem rv_cv_cat {fv : Value} (hfv : fv.category = 1) (ad : Nat → Nat) (v : Value) : (rv_cv ad fv v).category = v.category := by
  cases v <;> first | rfl | exact hfv
theorem rv_clr_get {lv : rv_L} {i j : Nat} {v : Value} (h : rv_get (rv_clr lv i) j = some v) : rv_get lv j = some v ∧ (j + 1 = i → ¬ v.category = 2) := by
  cases i with
  | zero => exact ⟨h, fun e => by omega⟩
  | succ k =>
    have h : rv_get (rv_clr1 lv k (rv_get lv k)) j = some v := h
    have hne : ¬ j = k → rv_get (rv_clr1 lv k (rv_get lv k)) j = rv_get lv j := by
      intro hj
      have hs : ∀ x : Option Value, rv_get (lv.set k x) j = rv_get lv j := fun x => by rw [rv_get_set, if_neg (fun q => hj q.symm)]
      cases rv_get lv k with
      | none => rfl
      | some u => cases u <;> first | exact hs _ | rfl
    by_cases hj : j = k
    · subst hj
      cases hg : rv_get lv j with
      | none =>
        rw [hg] at h
        have h : rv_get lv j = some v := h
        rw [hg] at h
        cases h
      | some u =>
        rw [hg] at h
        cases u with
        | long x =>
          have h : rv_get (lv.set j none) j = some v := h
          rw [rv_get_set, if_pos rfl] at h
          split at h <;> cases h
        | double x =>
          have h : rv_get (lv.set j none) j = some v := h
          rw [rv_get_set, if_pos rfl] at h
          split at h <;> cases h
        | _ =>
          have h : rv_get lv j = some v := h
          rw [hg] at h
          cases h
          exact ⟨rfl, fun _ q => by cases q⟩
    · exact ⟨by rw [← hne hj]; exact h, fun e => absurd (by omega) hj⟩
theorem rv_lh_put {ad : Nat → Nat} {fv : Value} (hfv : fv.category = 1) {ls' : Array Slot} {n i : Nat} {lv : rv_L} {v : Value} (h : lv_has ls' n ((i, rv_cv ad fv v) :: (rv_la ad fv lv).filter (fun q => !(q.1 == i) && !(q.1 + 1 == i && q.2.category == 2)))) : rv_lh ad fv ls' n (rv_put lv i v) := by
  refine ⟨h.1, h.2.1, fun j u hj => ?_⟩
  unfold rv_put at hj
  rw [rv_get_set] at hj
  by_cases hij : i = j
  · subst hij
    rw [if_pos rfl] at hj
    split at hj
    · cases hj
      exact h.2.2 _ List.mem_cons_self
    · cases hj
  · rw [if_neg hij] at hj
    obtain ⟨h1, h2⟩ := rv_clr_get hj
    refine h.2.2 (j, rv_cv ad fv u) (List.mem_cons_of_mem _ (List.mem_filter.mpr ⟨rv_la_mem h1, ?_⟩))
    have hji : ¬ j = i := fun q => hij q.symm
    simp only [Bool.and_eq_true, Bool.not_eq_true', beq_eq_false_iff_ne, ne_eq, hji, not_false_eq_true, true_and, Bool.and_eq_false_iff]
    by_cases e : j + 1 = i
    · right
      rw [rv_cv_cat hfv]
      exact h2 e
    · left
      exact e
theorem rv_lh_put2 {ad : Nat → Nat} {fv : Value} (hfv : fv.category = 1) {ls' : Array Slot} {n i : Nat} {lv : rv_L} {v : Value} (h : lv_has ls' n ((i, rv_cv ad fv v) :: (rv_la ad fv lv).filter (fun q => !(q.1 == i) && (!(q.1 == i + 1) && !(q.1 + 1 == i && q.2.category == 2))))) : rv_lh ad fv ls' n (rv_put2 lv i v) := by
  refine ⟨h.1, h.2.1, fun j u hj => ?_⟩
  unfold rv_put2 at hj
  rw [rv_get_set] at hj
  by_cases hij1 : i + 1 = j
  · rw [if_pos hij1] at hj
    split at hj <;> cases hj
  · rw [if_neg hij1, rv_get_set] at hj
    by_cases hij : i = j
    · subst hij
      rw [if_pos rfl] at hj
      split at hj
      · cases hj
        exact h.2.2 _ List.mem_cons_self
      · cases hj
    · rw [if_neg hij] at hj
      obtain ⟨h1, h2⟩ := rv_clr_get hj
      refine h.2.2 (j, rv_cv ad fv u) (List.mem_cons_of_mem _ (List.mem_filter.mpr ⟨rv_la_mem h1, ?_⟩))
      have hji : ¬ j = i := fun q => hij q.symm
      have hji1 : ¬ j = i + 1 := fun q => hij1 q.symm
      simp only [Bool.and_eq_true, Bool.not_eq_true', beq_eq_false_iff_ne, ne_eq, hji, hji1, not_false_eq_true, true_and, Bool.and_eq_false_iff]
      by_cases e : j + 1 = i
      · right
        rw [rv_cv_cat hfv]
        exact h2 e
      · left
        exact e
theorem rv_lh_kill {ad : Nat → Nat} {fv : Value} {ls : Array Slot} {n : Nat} {lv : rv_L} (is : List Nat) (h : rv_lh ad fv ls n lv) : rv_lh ad fv ls n (rv_kill is lv) := by
  refine ⟨h.1, h.2.1, fun i v hi => h.2.2 i v ?_⟩
  rw [rv_get_eq, rv_kill_get] at hi
  rw [rv_get_eq]
  split at hi
  · cases hl : lv[i]? with
    | none => rw [hl] at hi; cases hi
    | some x => rw [hl] at hi; cases hi
  · exact hi
theorem rv_ent_mem (ad : Nat → Nat) {fv : Value} (hfv : fv.category = 1) : ∀ (as : List Value) (n o i : Nat) (v : Value), rv_get (rv_ent n as) i = some v → (i + o, rv_cv ad fv v) ∈ lv_args o (as.map (rv_cv ad fv))
  | [], n, o, i, v, h => by
    rw [rv_ent, rv_get_eq] at h
    rw [List.getElem?_replicate] at h
    split at h <;> cases h
  | a :: as, n, o, i, v, h => by
    have two : a.category = 2 → rv_ent n (a :: as) = some a :: none :: rv_ent (n - 2) as → (i + o, rv_cv ad fv v) ∈ lv_args o ((a :: as).map (rv_cv ad fv)) := by
      intro hc he
      rw [he] at h
      rw [List.map_cons, lv_args, rv_cv_cat hfv, if_pos hc]
      match i, h with
      | 0, h =>
        have h : some a = some v := h
        cases h
        rw [Nat.zero_add]
        exact List.mem_cons_self
      | 1, h => cases h
      | i + 2, h =>
        have h : rv_get (rv_ent (n - 2) as) i = some v := h
        have := rv_ent_mem ad hfv as (n - 2) (o + 2) i v h
        rw [show i + 2 + o = i + (o + 2) by omega]
        exact List.mem_cons_of_mem _ this
    have one : a.category = 1 → rv_ent n (a :: as) = some a :: rv_ent (n - 1) as → (i + o, rv_cv ad fv v) ∈ lv_args o ((a :: as).map (rv_cv ad fv)) := by
      intro hc he
      rw [he] at h
      rw [List.map_cons, lv_args, rv_cv_cat hfv, if_neg (by omega)]
      match i, h with
      | 0, h =>
        have h : some a = some v := h
        cases h
        rw [Nat.zero_add]
        exact List.mem_cons_self
      | i + 1, h =>
        have h : rv_get (rv_ent (n - 1) as) i = some v := h
        have := rv_ent_mem ad hfv as (n - 1) (o + 1) i v h
        rw [show i + 1 + o = i + (o + 1) by omega]
        exact List.mem_cons_of_mem _ this
    cases a with
    | long x => exact two rfl rfl
    | double x => exact two rfl rfl
    | int x => exact one rfl rfl
    | float x => exact one rfl rfl
    | null => exact one rfl rfl
    | ref x => exact one rfl rfl
    | retAddr x => exact one rfl rfl
theorem rv_sl_len (ad : Nat → Nat) {fv : Value} (hfv : fv.category = 1) : ∀ (as : List Value), (lg_sl (as.map (rv_cv ad fv))).length = (as.map Value.category).sum
  | [] => rfl
  | a :: as => by
    have ih := rv_sl_len ad hfv as
    unfold lg_sl at ih ⊢
    rw [List.map_cons, List.flatMap_cons, List.length_append, ih, List.map_cons, List.sum_cons, rv_cv_cat hfv]
    rcases lv_cat a with h | h
    · rw [h, if_neg (by decide)]; rfl
    · rw [h, if_pos rfl]; rfl
