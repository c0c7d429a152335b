/-! THE LIMIT: what the abstract machine gives with fuel enough, and that it unfolds -/
def rv_E1 (g : rv_C → rv_G) : rv_F := fun k as w => (rv_ms[k]?).bind fun M => cond (rv_isC w M.2.2.2.2.1 as && Nat.ble (as.map Value.category).sum M.2.2.1) (g M.2.2.2.2.2.2.2 0 (rv_ent M.2.2.1 as) [] w) none
noncomputable def rv_go : Nat → rv_C → Nat → rv_L → List Value → rv_W → Option rv_X
  | 0, _, _, _, _, _ => none
  | n + 1, cd, pc, lv, st, w => (rv_lk cd pc).bind fun x => rv_step (fun pc lv st w => rv_go n cd pc lv st w) (rv_E1 (fun cd pc lv st w => rv_go n cd pc lv st w)) x pc lv st w
def rv_dep (F : rv_G → rv_F → Option rv_X) : Prop := ∀ (G : rv_G) (E : rv_F) (r : rv_X), F G E = some r →
  (∀ (G' : rv_G) (E' : rv_F), F G' E' = some r) ∨ (∃ pc lv st w, G pc lv st w = some r ∧ ∀ (G' : rv_G) (E' : rv_F), G' pc lv st w = some r → F G' E' = some r) ∨
  (∃ k as w0 q pc lv st w, E k as w0 = some q ∧ G pc lv st w = some r ∧ ∀ (G' : rv_G) (E' : rv_F), E' k as w0 = some q → G' pc lv st w = some r → F G' E' = some r)
theorem rv_dk (o : Option rv_X) : rv_dep (fun _ _ => o) := fun _ _ _ h => Or.inl fun _ _ => h
theorem rv_dg (pc : Nat) (lv : rv_L) (st : List Value) (w : rv_W) : rv_dep (fun G _ => G pc lv st w) := fun _ _ _ h => Or.inr (Or.inl ⟨pc, lv, st, w, h, fun _ _ h' => h'⟩)
theorem rv_dc (b : Bool) {F1 F2 : rv_G → rv_F → Option rv_X} (h1 : rv_dep F1) (h2 : rv_dep F2) : rv_dep (fun G E => cond b (F1 G E) (F2 G E)) := by
  cases b
  · exact h2
  · exact h1
theorem rv_dif (b : Bool) {F1 F2 : rv_G → rv_F → Option rv_X} (h1 : rv_dep F1) (h2 : rv_dep F2) : rv_dep (fun G E => rv_if b (F1 G E) (F2 G E)) := by
  cases b
  · exact h2
  · exact h1
theorem rv_db {α : Type} (o : Option α) {F : α → rv_G → rv_F → Option rv_X} (h : ∀ x, rv_dep (F x)) : rv_dep (fun G E => o.bind fun x => F x G E) := by
  cases o with
  | none => exact rv_dk none
  | some x => exact h x
theorem rv_de {α : Type} (k : Nat) (as : List Value) (w0 : rv_W) (T : Option rv_X → Option α) (hT : T none = none) (P : α → Nat) (A : α → rv_L) (S : α → List Value) (V : α → rv_W) : rv_dep (fun G E => (T (E k as w0)).bind fun q => G (P q) (A q) (S q) (V q)) := by
  intro G E r h
  cases hE : E k as w0 with
  | none =>
    have h : (T (E k as w0)).bind (fun q => G (P q) (A q) (S q) (V q)) = some r := h
    rw [hE, hT] at h
    cases h
  | some q =>
    have h : (T (E k as w0)).bind (fun q => G (P q) (A q) (S q) (V q)) = some r := h
    rw [hE] at h
    cases hq : T (some q) with
    | none => rw [hq] at h; cases h
    | some u =>
      rw [hq] at h
      refine Or.inr (Or.inr ⟨k, as, w0, q, _, _, _, _, hE, h, fun G' E' h1 h2 => ?_⟩)
      show (T (E' k as w0)).bind (fun q => G' (P q) (A q) (S q) (V q)) = some r
      rw [h1, hq]
      exact h2
theorem rv_dgi (lv : rv_L) (i : Nat) {K : Int32 → rv_G → rv_F → Option rv_X} (h : ∀ x, rv_dep (K x)) : rv_dep (fun G E => rv_gi lv i fun x => K x G E) := by
  unfold rv_gi
  generalize rv_get lv i = o
  rcases o with _ | v
  · exact rv_dk none
  · cases v <;> first | exact h _ | exact rv_dk none
theorem rv_dgl (lv : rv_L) (i : Nat) {K : Int64 → rv_G → rv_F → Option rv_X} (h : ∀ x, rv_dep (K x)) : rv_dep (fun G E => rv_gl lv i fun x => K x G E) := by
  unfold rv_gl
  generalize rv_get lv i = o
  rcases o with _ | v
  · exact rv_dk none
  · cases v <;> first | exact h _ | exact rv_dk none
theorem rv_dga (lv : rv_L) (i : Nat) {K : Nat → rv_G → rv_F → Option rv_X} (h : ∀ x, rv_dep (K x)) : rv_dep (fun G E => rv_ga lv i fun x => K x G E) := by
  unfold rv_ga
  generalize rv_get lv i = o
  rcases o with _ | v
  · exact rv_dk none
  · cases v <;> first | exact h _ | exact rv_dk none
theorem rv_di1 (st : List Value) {K : Int32 → List Value → rv_G → rv_F → Option rv_X} (h : ∀ x r, rv_dep (K x r)) : rv_dep (fun G E => rv_i1 st fun x r => K x r G E) := by
  rcases st with _ | ⟨v, t⟩
  · exact rv_dk none
  · cases v <;> first | exact h _ _ | exact rv_dk none
theorem rv_dl1 (st : List Value) {K : Int64 → List Value → rv_G → rv_F → Option rv_X} (h : ∀ x r, rv_dep (K x r)) : rv_dep (fun G E => rv_l1 st fun x r => K x r G E) := by
  rcases st with _ | ⟨v, t⟩
  · exact rv_dk none
  · cases v <;> first | exact h _ _ | exact rv_dk none
theorem rv_da1 (st : List Value) {K : Nat → List Value → rv_G → rv_F → Option rv_X} (h : ∀ x r, rv_dep (K x r)) : rv_dep (fun G E => rv_a1 st fun x r => K x r G E) := by
  rcases st with _ | ⟨v, t⟩
  · exact rv_dk none
  · cases v <;> first | exact h _ _ | exact rv_dk none
theorem rv_dv1 (st : List Value) {K : Value → List Value → rv_G → rv_F → Option rv_X} (h : ∀ x r, rv_dep (K x r)) : rv_dep (fun G E => rv_v1 st fun x r => K x r G E) := by
  rcases st with _ | ⟨v, t⟩
  · exact rv_dk none
  · cases v <;> first | exact h _ _ | exact rv_dk none
theorem rv_di2 (st : List Value) {K : Int32 → Int32 → List Value → rv_G → rv_F → Option rv_X} (h : ∀ x y r, rv_dep (K x y r)) : rv_dep (fun G E => rv_i2 st fun x y r => K x y r G E) := by
  rcases st with _ | ⟨v, _ | ⟨u, t⟩⟩
  · exact rv_dk none
  · cases v <;> exact rv_dk none
  · cases v <;> cases u <;> first | exact h _ _ _ | exact rv_dk none
theorem rv_dl2 (st : List Value) {K : Int64 → Int64 → List Value → rv_G → rv_F → Option rv_X} (h : ∀ x y r, rv_dep (K x y r)) : rv_dep (fun G E => rv_l2 st fun x y r => K x y r G E) := by
  rcases st with _ | ⟨v, _ | ⟨u, t⟩⟩
  · exact rv_dk none
  · cases v <;> exact rv_dk none
  · cases v <;> cases u <;> first | exact h _ _ _ | exact rv_dk none
theorem rv_dli (st : List Value) {K : Int64 → Int32 → List Value → rv_G → rv_F → Option rv_X} (h : ∀ x y r, rv_dep (K x y r)) : rv_dep (fun G E => rv_li st fun x y r => K x y r G E) := by
  rcases st with _ | ⟨v, _ | ⟨u, t⟩⟩
  · exact rv_dk none
  · cases v <;> exact rv_dk none
  · cases v <;> cases u <;> first | exact h _ _ _ | exact rv_dk none
theorem rv_dai (st : List Value) {K : Nat → Int32 → List Value → rv_G → rv_F → Option rv_X} (h : ∀ x y r, rv_dep (K x y r)) : rv_dep (fun G E => rv_ai st fun x y r => K x y r G E) := by
  rcases st with _ | ⟨v, _ | ⟨u, t⟩⟩
  · exact rv_dk none
  · cases v <;> exact rv_dk none
  · cases v <;> cases u <;> first | exact h _ _ _ | exact rv_dk none
theorem rv_daa (st : List Value) {K : Nat → Nat → List Value → rv_G → rv_F → Option rv_X} (h : ∀ x y r, rv_dep (K x y r)) : rv_dep (fun G E => rv_aa st fun x y r => K x y r G E) := by
  rcases st with _ | ⟨v, _ | ⟨u, t⟩⟩
  · exact rv_dk none
  · cases v <;> exact rv_dk none
  · cases v <;> cases u <;> first | exact h _ _ _ | exact rv_dk none
theorem rv_diaR (st : List Value) {K : Nat → Int32 → List Value → rv_G → rv_F → Option rv_X} (h : ∀ x y r, rv_dep (K x y r)) : rv_dep (fun G E => rv_iaR st fun x y r => K x y r G E) := by
  rcases st with _ | ⟨v, _ | ⟨u, t⟩⟩
  · exact rv_dk none
  · cases v <;> exact rv_dk none
  · cases v <;> cases u <;> first | exact h _ _ _ | exact rv_dk none
theorem rv_dv2 (st : List Value) {K : Value → Value → List Value → rv_G → rv_F → Option rv_X} (h : ∀ x y r, rv_dep (K x y r)) : rv_dep (fun G E => rv_v2 st fun x y r => K x y r G E) := by
  rcases st with _ | ⟨v, _ | ⟨u, t⟩⟩
  · exact rv_dk none
  · cases v <;> exact rv_dk none
  · cases v <;> cases u <;> first | exact h _ _ _ | exact rv_dk none
theorem rv_daii (st : List Value) {K : Nat → Int32 → Int32 → List Value → rv_G → rv_F → Option rv_X} (h : ∀ x y z r, rv_dep (K x y z r)) : rv_dep (fun G E => rv_aii st fun x y z r => K x y z r G E) := by
  rcases st with _ | ⟨v, _ | ⟨u, _ | ⟨z, t⟩⟩⟩
  · exact rv_dk none
  · cases v <;> exact rv_dk none
  · cases v <;> cases u <;> exact rv_dk none
  · cases v <;> cases u <;> cases z <;> first | exact h _ _ _ _ | exact rv_dk none
theorem rv_dcp (st : List Value) {K : Nat → Int32 → Nat → Int32 → Int32 → List Value → rv_G → rv_F → Option rv_X} (h : ∀ s sp d dp n r, rv_dep (K s sp d dp n r)) : rv_dep (fun G E => rv_cp st fun s sp d dp n r => K s sp d dp n r G E) := by
  by_cases hs : ∃ n dp d sp s r, st = .int n :: .int dp :: .ref d :: .int sp :: .ref s :: r
  · obtain ⟨n, dp, d, sp, s, r, rfl⟩ := hs
    exact h s sp d dp n r
  · have e : ∀ K' : Nat → Int32 → Nat → Int32 → Int32 → List Value → Option rv_X, rv_cp st K' = none := by
      intro K'
      unfold rv_cp
      split
      · exact absurd ⟨_, _, _, _, _, _, rfl⟩ hs
      · rfl
    intro G E r hr
    have hr : rv_cp st (fun s sp d dp n r => K s sp d dp n r G E) = some r := hr
    rw [e] at hr
    cases hr
theorem rv_dend (st : List Value) (o : Option rv_X) : rv_dep (fun _ _ => rv_end st o) := rv_dk _
theorem rv_dt {F : Nat → rv_G → rv_F → Option rv_X} (h : ∀ pc, rv_dep (F pc)) (pc : Nat) (x : Int32) (d : Int) : ∀ (os : List Int) (lo : Int), rv_dep (fun G E => rv_tsw (fun pc => F pc G E) pc x d lo os)
  | [], _ => h _
  | _ :: os, lo => rv_dc _ (h _) (rv_dt h pc x d os (lo + 1))
theorem rv_dls {F : Nat → rv_G → rv_F → Option rv_X} (h : ∀ pc, rv_dep (F pc)) (pc : Nat) (x : Int32) (d : Int) : ∀ (os : List (Int × Int)), rv_dep (fun G E => rv_lsw (fun pc => F pc G E) pc x d os)
  | [] => h _
  | _ :: os => rv_dc _ (h _) (rv_dls h pc x d os)
theorem rv_dcall (a b pc : Nat) (lv : rv_L) (st : List Value) (w : rv_W) : rv_dep (fun G E => rv_call G E a b pc lv st w) := by
  refine rv_dif _ (rv_dif _ ?_ (rv_dif _ ?_ (rv_dif _ ?_ ?_))) (rv_dk none)
  · exact rv_de a _ w rv_ri rfl _ _ _ _
  · exact rv_de a _ w rv_rv rfl _ _ _ _
  · exact rv_de a _ w rv_rl rfl _ _ _ _
  · exact rv_de a _ w rv_rr rfl _ _ _ _
set_option maxHeartbeats 4000000 in
theorem rv_dstepI (a b : Nat) (c : Int32) (pc : Nat) (lv : rv_L) (st : List Value) (w : rv_W) (i : Jvm.ClassFile.Instr) : rv_dep (fun G E => rv_stepI G E a b c pc lv st w i) := by
  cases i with
  | iconst n => exact rv_dg _ _ _ _
  | bipush n => exact rv_dg _ _ _ _
  | sipush n => exact rv_dg _ _ _ _
  | ldc n => exact rv_dif _ (rv_dg _ _ _ _) (rv_dg _ _ _ _)
  | ldc_w n => exact rv_dg _ _ _ _
  | ldc2_w n => exact rv_dg _ _ _ _
  | lconst n => exact rv_dg _ _ _ _
  | iload n => exact rv_dgi _ _ fun _ => rv_dg _ _ _ _
  | iload_n n => exact rv_dgi _ _ fun _ => rv_dg _ _ _ _
  | lload n => exact rv_dgl _ _ fun _ => rv_dg _ _ _ _
  | lload_n n => exact rv_dgl _ _ fun _ => rv_dg _ _ _ _
  | aload n => exact rv_dga _ _ fun _ => rv_dg _ _ _ _
  | aload_n n => exact rv_dga _ _ fun _ => rv_dg _ _ _ _
  | istore n => exact rv_di1 _ fun _ _ => rv_dg _ _ _ _
  | istore_n n => exact rv_di1 _ fun _ _ => rv_dg _ _ _ _
  | lstore n => exact rv_dl1 _ fun _ _ => rv_dg _ _ _ _
  | lstore_n n => exact rv_dl1 _ fun _ _ => rv_dg _ _ _ _
  | astore n => exact rv_da1 _ fun _ _ => rv_dg _ _ _ _
  | astore_n n => exact rv_da1 _ fun _ _ => rv_dg _ _ _ _
  | iinc n m => exact rv_dgi _ _ fun _ => rv_dg _ _ _ _
  | iadd => exact rv_di2 _ fun _ _ _ => rv_dg _ _ _ _
  | isub => exact rv_di2 _ fun _ _ _ => rv_dg _ _ _ _
  | imul => exact rv_di2 _ fun _ _ _ => rv_dg _ _ _ _
  | iand => exact rv_di2 _ fun _ _ _ => rv_dg _ _ _ _
  | ior => exact rv_di2 _ fun _ _ _ => rv_dg _ _ _ _
  | ixor => exact rv_di2 _ fun _ _ _ => rv_dg _ _ _ _
  | ishl => exact rv_di2 _ fun _ _ _ => rv_dg _ _ _ _
  | ishr => exact rv_di2 _ fun _ _ _ => rv_dg _ _ _ _
  | iushr => exact rv_di2 _ fun _ _ _ => rv_dg _ _ _ _
  | idiv => exact rv_di2 _ fun _ _ _ => rv_dc _ (rv_dk none) (rv_dg _ _ _ _)
  | irem => exact rv_di2 _ fun _ _ _ => rv_dc _ (rv_dk none) (rv_dg _ _ _ _)
  | lmul => exact rv_dl2 _ fun _ _ _ => rv_dg _ _ _ _
  | land => exact rv_dl2 _ fun _ _ _ => rv_dg _ _ _ _
  | lor => exact rv_dl2 _ fun _ _ _ => rv_dg _ _ _ _
  | ldiv => exact rv_dl2 _ fun _ _ _ => rv_dc _ (rv_dk none) (rv_dg _ _ _ _)
  | lrem => exact rv_dl2 _ fun _ _ _ => rv_dc _ (rv_dk none) (rv_dg _ _ _ _)
  | lshl => exact rv_dli _ fun _ _ _ => rv_dg _ _ _ _
  | lshr => exact rv_dli _ fun _ _ _ => rv_dg _ _ _ _
  | lcmp => exact rv_dl2 _ fun _ _ _ => rv_dg _ _ _ _
  | i2l => exact rv_di1 _ fun _ _ => rv_dg _ _ _ _
  | i2b => exact rv_di1 _ fun _ _ => rv_dg _ _ _ _
  | i2s => exact rv_di1 _ fun _ _ => rv_dg _ _ _ _
  | i2c => exact rv_di1 _ fun _ _ => rv_dg _ _ _ _
  | dup => exact rv_dv1 st (K := fun x r G _ => G (pc + 1) lv (x :: x :: r) w) fun _ _ => rv_dg _ _ _ _
  | dup2 => exact rv_dv2 st (K := fun x y r G _ => G (pc + 1) lv (y :: x :: y :: x :: r) w) fun _ _ _ => rv_dg _ _ _ _
  | pop => exact rv_dv1 st (K := fun _ r G _ => G (pc + 1) lv r w) fun _ _ => rv_dg _ _ _ _
  | ifCond q n => exact rv_di1 _ fun _ _ => rv_dc _ (rv_dg _ _ _ _) (rv_dg _ _ _ _)
  | if_icmp q n => exact rv_di2 _ fun _ _ _ => rv_dc _ (rv_dg _ _ _ _) (rv_dg _ _ _ _)
  | goto n => exact rv_dg _ _ _ _
  | tableswitch d lo hi os => exact rv_di1 _ fun _ _ => rv_dt (fun _ => rv_dg _ _ _ _) _ _ _ _ _
  | lookupswitch d os => exact rv_di1 _ fun _ _ => rv_dls (fun _ => rv_dg _ _ _ _) _ _ _ _
  | iaload => exact rv_dai _ fun _ _ _ => rv_db _ fun _ => rv_dg _ _ _ _
  | baload => exact rv_dai _ fun _ _ _ => rv_db _ fun _ => rv_dg _ _ _ _
  | aaload => exact rv_dai _ fun _ _ _ => rv_db _ fun _ => rv_dg _ _ _ _
  | iastore => exact rv_daii _ fun _ _ _ _ => rv_db _ fun _ => rv_dg _ _ _ _
  | bastore => exact rv_daii _ fun _ _ _ _ => rv_db _ fun _ => rv_dg _ _ _ _
  | arraylength => exact rv_da1 _ fun _ _ => rv_db _ fun _ => rv_dg _ _ _ _
  | getfield n => exact rv_da1 _ fun _ _ => rv_dif _ (rv_db _ fun _ => rv_dg _ _ _ _) (rv_dif _ (rv_db _ fun _ => rv_dg _ _ _ _) (rv_dif _ (rv_dc _ (rv_dg _ _ _ _) (rv_dk none)) (rv_dc _ (rv_dg _ _ _ _) (rv_dk none))))
  | putfield n => exact rv_dif _ (rv_daa _ fun _ _ _ => rv_db _ fun _ => rv_dg _ _ _ _) (rv_dif _ (rv_diaR _ fun _ _ _ => rv_dc _ (rv_db _ fun _ => rv_dg _ _ _ _) (rv_dk none)) (rv_diaR _ fun _ _ _ => rv_db _ fun _ => rv_dg _ _ _ _))
  | getstatic n => exact rv_dif _ (rv_dg _ _ _ _) (rv_dif _ (rv_dg _ _ _ _) (rv_dg _ _ _ _))
  | invokevirtual n => exact rv_dcall _ _ _ _ _ _
  | invokestatic n => exact rv_dif _ (rv_dcp _ fun _ _ _ _ _ _ => rv_dif _ (rv_db _ fun _ => rv_dg _ _ _ _) (rv_dk none)) (rv_dif _ (rv_di2 _ fun _ _ _ => rv_dif _ (rv_dg _ _ _ _) (rv_dk none)) (rv_dif _ (rv_di2 _ fun _ _ _ => rv_dif _ (rv_dg _ _ _ _) (rv_dk none)) (rv_dcall _ _ _ _ _ _)))
  | ireturn => exact rv_di1 _ fun _ _ => rv_dk _
  | lreturn => exact rv_dl1 _ fun _ _ => rv_dk _
  | areturn => exact rv_da1 _ fun _ _ => rv_dk _
  | return_ => exact rv_dk _
  | _ => exact rv_dk none
theorem rv_dstep (x : rv_I) (pc : Nat) (lv : rv_L) (st : List Value) (w : rv_W) : rv_dep (fun G E => rv_step G E x pc lv st w) := by
  obtain ⟨i, len, a, b, pos, c, dead⟩ := x
  exact rv_dstepI _ _ _ _ _ _ _ _
theorem rv_E1_mono {g g' : rv_C → rv_G} (h : ∀ cd pc lv st w r, g cd pc lv st w = some r → g' cd pc lv st w = some r) (k : Nat) (as : List Value) (w : rv_W) (r : rv_X) (hr : rv_E1 g k as w = some r) : rv_E1 g' k as w = some r := by
  unfold rv_E1 at hr ⊢
  cases hM : rv_ms[k]? with
  | none => rw [hM] at hr; cases hr
  | some M =>
    rw [hM] at hr
    simp only [Option.bind_some] at hr ⊢
    cases hc : (rv_isC w M.2.2.2.2.1 as && Nat.ble (as.map Value.category).sum M.2.2.1) with
    | false => rw [hc] at hr; cases hr
    | true => rw [hc] at hr; exact h _ _ _ _ _ _ hr
theorem rv_go_succ (n : Nat) (cd : rv_C) (pc : Nat) (lv : rv_L) (st : List Value) (w : rv_W) : rv_go (n + 1) cd pc lv st w = (rv_lk cd pc).bind fun x => rv_step (rv_go n cd) (rv_E1 (rv_go n)) x pc lv st w := rfl
theorem rv_go_mono : ∀ (n : Nat) (cd : rv_C) (pc : Nat) (lv : rv_L) (st : List Value) (w : rv_W) (r : rv_X), rv_go n cd pc lv st w = some r → rv_go (n + 1) cd pc lv st w = some r := by
  intro n
  induction n with
  | zero => intro cd pc lv st w r h; cases h
  | succ n ih =>
    intro cd pc lv st w r h
    rw [rv_go_succ] at h ⊢
    cases hx : rv_lk cd pc with
    | none => rw [hx] at h; cases h
    | some x =>
      rw [hx] at h
      simp only [Option.bind_some] at h ⊢
      rcases rv_dstep x pc lv st w _ _ r h with h1 | ⟨pc', lv', st', w', h1, h2⟩ | ⟨k, as, w0, q, pc', lv', st', w', h0, h1, h2⟩
      · exact h1 _ _
      · exact h2 _ _ (ih _ _ _ _ _ _ h1)
      · exact h2 _ _ (rv_E1_mono ih _ _ _ _ h0) (ih _ _ _ _ _ _ h1)
theorem rv_go_le {n m : Nat} (hnm : n ≤ m) {cd : rv_C} {pc : Nat} {lv : rv_L} {st : List Value} {w : rv_W} {r : rv_X} (h : rv_go n cd pc lv st w = some r) : rv_go m cd pc lv st w = some r := by
  induction hnm with
  | refl => exact h
  | step _ ih => exact rv_go_mono _ _ _ _ _ _ _ ih
noncomputable def rv_GO (cd : rv_C) (pc : Nat) (lv : rv_L) (st : List Value) (w : rv_W) : Option rv_X :=
  @dite _ (∃ r n, rv_go n cd pc lv st w = some r) (Classical.propDecidable _) (fun h => some h.choose) (fun _ => none)
theorem rv_GO_iff {cd : rv_C} {pc : Nat} {lv : rv_L} {st : List Value} {w : rv_W} {r : rv_X} : rv_GO cd pc lv st w = some r ↔ ∃ n, rv_go n cd pc lv st w = some r := by
  unfold rv_GO
  by_cases h : ∃ r n, rv_go n cd pc lv st w = some r
  · rw [dif_pos h]
    obtain ⟨n, hn⟩ := h.choose_spec
    constructor
    · intro e
      rw [← Option.some.inj e]
      exact ⟨n, hn⟩
    · rintro ⟨m, hm⟩
      have h1 := rv_go_le (Nat.le_max_left n m) hn
      have h2 := rv_go_le (Nat.le_max_right n m) hm
      rw [h1] at h2
      exact h2
  · rw [dif_neg h]
    constructor
    · intro e; cases e
    · rintro ⟨m, hm⟩
      exact absurd ⟨r, m, hm⟩ h
noncomputable def rv_EV : rv_F := rv_E1 rv_GO
theorem rv_EV_iff {k : Nat} {as : List Value} {w : rv_W} {r : rv_X} (h : rv_EV k as w = some r) : ∃ n, rv_E1 (rv_go n) k as w = some r := by
  unfold rv_EV rv_E1 at h
  unfold rv_E1
  cases hM : rv_ms[k]? with
  | none => rw [hM] at h; cases h
  | some M =>
    rw [hM] at h
    simp only [Option.bind_some] at h ⊢
    cases hc : (rv_isC w M.2.2.2.2.1 as && Nat.ble (as.map Value.category).sum M.2.2.1) with
    | false => rw [hc] at h; cases h
    | true => rw [hc] at h; exact rv_GO_iff.mp h
theorem rv_GO_eq (cd : rv_C) (pc : Nat) (lv : rv_L) (st : List Value) (w : rv_W) : rv_GO cd pc lv st w = (rv_lk cd pc).bind fun x => rv_step (rv_GO cd) rv_EV x pc lv st w := by
  apply Option.ext
  intro r
  constructor
  · intro h
    obtain ⟨n, hn⟩ := rv_GO_iff.mp h
    cases n with
    | zero => cases hn
    | succ n =>
      rw [rv_go_succ] at hn
      cases hx : rv_lk cd pc with
      | none => rw [hx] at hn; cases hn
      | some x =>
        rw [hx] at hn
        simp only [Option.bind_some] at hn ⊢
        rcases rv_dstep x pc lv st w _ _ r hn with h1 | ⟨pc', lv', st', w', h1, h2⟩ | ⟨k, as, w0, q, pc', lv', st', w', h0, h1, h2⟩
        · exact h1 _ _
        · exact h2 _ _ (rv_GO_iff.mpr ⟨n, h1⟩)
        · exact h2 _ _ (rv_E1_mono (fun _ _ _ _ _ _ h => rv_GO_iff.mpr ⟨n, h⟩) _ _ _ _ h0) (rv_GO_iff.mpr ⟨n, h1⟩)
  · intro h
    cases hx : rv_lk cd pc with
    | none => rw [hx] at h; cases h
    | some x =>
      rw [hx] at h
      simp only [Option.bind_some] at h
      have key : ∀ n, rv_step (rv_go n cd) (rv_E1 (rv_go n)) x pc lv st w = some r → rv_GO cd pc lv st w = some r := by
        intro n hn
        refine rv_GO_iff.mpr ⟨n + 1, ?_⟩
        rw [rv_go_succ, hx]
        exact hn
      rcases rv_dstep x pc lv st w _ _ r h with h1 | ⟨pc', lv', st', w', h1, h2⟩ | ⟨k, as, w0, q, pc', lv', st', w', h0, h1, h2⟩
      · exact key 0 (h1 _ _)
      · obtain ⟨n, hn⟩ := rv_GO_iff.mp h1
        exact key n (h2 _ _ hn)
      · obtain ⟨n, hn⟩ := rv_GO_iff.mp h1
        obtain ⟨m, hm⟩ := rv_EV_iff h0
        refine key (max n m) (h2 _ _ ?_ (rv_go_le (Nat.le_max_left n m) hn))
        exact rv_E1_mono (fun _ _ _ _ _ _ h => rv_go_le (Nat.le_max_right n m) h) _ _ _ _ hm
/-! blocks: several instructions at once, up to the next label -/
def rv_killAt (cd : rv_C) (pc : Nat) (lv : rv_L) : rv_L := match rv_lk cd pc with
  | some x => rv_kill x.2.2.2.2.2.2 lv
  | none => lv
theorem rv_kill_get : ∀ (is : List Nat) (lv : rv_L) (j : Nat), (rv_kill is lv)[j]? = if j ∈ is then (lv[j]?).map (fun _ => none) else lv[j]?
  | [], lv, j => by simp [rv_kill]
  | i :: is, lv, j => by
    rw [rv_kill, rv_kill_get is (lv.set i none) j]
    by_cases hi : j = i
    · subst hi
      by_cases hl : j < lv.length
      · simp [List.getElem?_set, hl]
      · simp [List.getElem?_set, hl]
    · have hi' : ¬ i = j := fun h => hi h.symm
      simp [List.getElem?_set, hi, hi']
theorem rv_kill_kill (is : List Nat) (lv : rv_L) : rv_kill is (rv_kill is lv) = rv_kill is lv := by
  apply List.ext_getElem?
  intro j
  rw [rv_kill_get, rv_kill_get]
  by_cases h : j ∈ is
  · simp [h, Option.map_map]
    rfl
  · simp [h]
theorem rv_GO_kill (cd : rv_C) (pc : Nat) (lv : rv_L) (st : List Value) (w : rv_W) : rv_GO cd pc (rv_killAt cd pc lv) st w = rv_GO cd pc lv st w := by
  rw [rv_GO_eq, rv_GO_eq cd pc lv]
  unfold rv_killAt
  cases hx : rv_lk cd pc with
  | none => rfl
  | some x =>
    obtain ⟨i, len, a, b, pos, c, dead⟩ := x
    simp only [Option.bind_some]
    show rv_stepI _ _ a b c pc (rv_kill dead (rv_kill dead lv)) st w i = rv_stepI _ _ a b c pc (rv_kill dead lv) st w i
    rw [rv_kill_kill]
noncomputable def rv_blk (stops : List Nat) : Nat → rv_C → Nat → rv_L → List Value → rv_W → Option rv_X
  | 0, cd, pc, lv, st, w => rv_GO cd pc lv st w
  | n + 1, cd, pc, lv, st, w => rv_ob (rv_lk cd pc) fun x => rv_step (fun pc lv st w => rv_if (stops.elem pc) (rv_GO cd pc (rv_killAt cd pc lv) st w) (rv_blk stops n cd pc lv st w)) rv_EV x pc lv st w
theorem rv_blk_eq (stops : List Nat) : ∀ (n : Nat) (cd : rv_C) (pc : Nat) (lv : rv_L) (st : List Value) (w : rv_W), rv_blk stops n cd pc lv st w = rv_GO cd pc lv st w
  | 0, _, _, _, _, _ => rfl
  | n + 1, cd, pc, lv, st, w => by
    have e : (fun pc lv st w => rv_if (stops.elem pc) (rv_GO cd pc (rv_killAt cd pc lv) st w) (rv_blk stops n cd pc lv st w)) = rv_GO cd := by
      funext pc lv st w
      rw [rv_GO_kill, rv_blk_eq stops n]
      cases stops.elem pc <;> rfl
    show (rv_ob (rv_lk cd pc) fun x => rv_step (fun pc lv st w => rv_if (stops.elem pc) (rv_GO cd pc (rv_killAt cd pc lv) st w) (rv_blk stops n cd pc lv st w)) rv_EV x pc lv st w) = _
    rw [e, rv_GO_eq]
    cases rv_lk cd pc <;> rfl
