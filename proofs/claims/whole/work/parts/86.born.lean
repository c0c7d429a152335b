/-! MAKING CELLS: arrays as tables -/
def arI (dA : Nat → ClassId) (n : Nat) (f : Nat → Int32) : va_E := .inl (dA 0, ((rv_tab n f).length, .inl (fun j => (rv_tab n f).getD j 0)))
def arB (dA : Nat → ClassId) (n : Nat) (f : Nat → Int32) : va_E := .inl (dA 1, ((rv_tab n f).length, .inl (fun j => (rv_tab n f).getD j 0)))
theorem arI_congr {dA : Nat → ClassId} {n : Nat} {f g : Nat → Int32} (h : ∀ j, j < n → f j = g j) : arI dA n f = arI dA n g := by
  unfold arI
  rw [rv_tab_congr h]
theorem arrV_congr {cA : ClassId} {n : Nat} {f g : Nat → Value} (h : ∀ j, j < n → f j = g j) : arrV cA n f = arrV cA n g := by
  unfold arrV
  congr 2
  funext j
  exact h j.val j.isLt
theorem ar_cell {cA : ClassId} {n : Nat} {f : Nat → Int32} : vp_cell cA ((rv_tab n f).length, .inl (fun j => (rv_tab n f).getD j 0)) = arrV cA n (fun j => .int (f j)) := by
  rw [vp_cell_i, rv_tab_len]
  exact arrV_congr (fun j hj => by rw [rv_getD_tab n f hj])
section BORN
variable {l : Launch} {dC : Nat → ClassId} {dI : Nat → Nat → Nat} {dA : Nat → ClassId} {p : Program} {e : Env} {R : Room} {s : State} {m : MethodId} {args : Array Value} {below : List Frame} {meth : Method} {c : Code} {cc : ByteArray} {H H0 : Heap} {locs : List Loc} {cells slots pc : Nat} {Q : State → Prop} {ls : Array Slot} {rest : List Value} {A : Nat → Prop} {ws : va_W} {a : Nat}
theorem rv_newI (hx : p.tables.exec = Jvm.exec) (hb : c.code = cc) (harr : (Cond.arrayClass .int).before args s = true) (hK : va_K (dC, dI) vwCl (rv_tys dA) s) (hP : va_P (dC, dI) vwCl ws H) (hD : va_D A ws) (hS : va_S A H0 H locs) (hA : ∀ q, H0.size ≤ q → A q) (n : Nat) (f : Nat → Int32) (hf : ∀ j, j < n → f j = 0) (hn : n ≤ 1000) {z : Int32} (hz : z = nI n) (hcells : cells + 1 ≤ R.cells) (hslots : slots + n ≤ R.slots) (hdg : decode cc pc = .ok (.newarray .int, 2))
    (kk : ∀ (q : Nat) (H1 : Heap), va_P (dC, dI) vwCl (ws ++ [(q, arI dA n f)]) H1 → va_D A (ws ++ [(q, arI dA n f)]) → va_S A H0 H1 locs → W p l e R s m args below meth c H1 locs (cells + 1) (slots + n) Q (F0 m (pc + 2) ls (.ref q :: rest))) : W p l e R s m args below meth c H locs cells slots Q (F0 m pc ls (.int z :: rest)) := by
  subst hz
  refine va_newa (atype := .int) (ty := .int) (N' := n) (a0 := ((rv_tab n f).length, .inl (fun j => (rv_tab n f).getD j 0))) hx hb harr rfl hK hP hD hS hA (fun cA => ?_) (nI_pos (by omega)) (nI_clamp (by omega)) (by show n * 4 ≤ 536870912; omega) hcells hslots hdg (fun q cA H1 hK1 hP1 hD1 hS1 => ?_)
  · rw [ar_cell]
    exact arrV_congr (fun j hj => by rw [hf j hj]; rfl)
  · have e1 : s.vm.findClass ("[" ++ FieldType.int.toString) = some cA := (hK1.2 3 (cA, .int) rfl).2
    have e2 : s.vm.findClass ("[" ++ FieldType.int.toString) = some (dA 0) := (hK.2 0 (dA 0, .int) rfl).2
    have e3 : cA = dA 0 := Option.some.inj (e1.symm.trans e2)
    subst e3
    exact kk q H1 hP1 hD1 hS1
theorem rv_newB (hx : p.tables.exec = Jvm.exec) (hb : c.code = cc) (harr : (Cond.arrayClass .byte).before args s = true) (hK : va_K (dC, dI) vwCl (rv_tys dA) s) (hP : va_P (dC, dI) vwCl ws H) (hD : va_D A ws) (hS : va_S A H0 H locs) (hA : ∀ q, H0.size ≤ q → A q) (n : Nat) (f : Nat → Int32) (hf : ∀ j, j < n → f j = 0) (hn : n ≤ 1000) {z : Int32} (hz : z = nI n) (hcells : cells + 1 ≤ R.cells) (hslots : slots + n ≤ R.slots) (hdg : decode cc pc = .ok (.newarray .byte, 2))
    (kk : ∀ (q : Nat) (H1 : Heap), va_P (dC, dI) vwCl (ws ++ [(q, arB dA n f)]) H1 → va_D A (ws ++ [(q, arB dA n f)]) → va_S A H0 H1 locs → W p l e R s m args below meth c H1 locs (cells + 1) (slots + n) Q (F0 m (pc + 2) ls (.ref q :: rest))) : W p l e R s m args below meth c H locs cells slots Q (F0 m pc ls (.int z :: rest)) := by
  subst hz
  refine va_newa (atype := .byte) (ty := .byte) (N' := n) (a0 := ((rv_tab n f).length, .inl (fun j => (rv_tab n f).getD j 0))) hx hb harr rfl hK hP hD hS hA (fun cA => ?_) (nI_pos (by omega)) (nI_clamp (by omega)) (by show n * 1 ≤ 536870912; omega) hcells hslots hdg (fun q cA H1 hK1 hP1 hD1 hS1 => ?_)
  · rw [ar_cell]
    exact arrV_congr (fun j hj => by rw [hf j hj]; rfl)
  · have e1 : s.vm.findClass ("[" ++ FieldType.byte.toString) = some cA := (hK1.2 3 (cA, .byte) rfl).2
    have e2 : s.vm.findClass ("[" ++ FieldType.byte.toString) = some (dA 1) := (hK.2 1 (dA 1, .byte) rfl).2
    have e3 : cA = dA 1 := Option.some.inj (e1.symm.trans e2)
    subst e3
    exact kk q H1 hP1 hD1 hS1
theorem rv_newQ (hx : p.tables.exec = Jvm.exec) (hb : c.code = cc) {own : String} {index : Nat} (hown : s.vm.findClass own = some m.cls) (hcl : (Cond.classLink own index RX1).before args s = true) (hover : va_AO RX1 s) (hK : va_K (dC, dI) vwCl (rv_tys dA) s) (hP : va_P (dC, dI) vwCl ws H) (hD : va_D A ws) (hS : va_S A H0 H locs) (hA : ∀ q, H0.size ≤ q → A q) {z : Int32} (hz : z = nI 4) (hcells : cells + 1 ≤ R.cells) (hslots : slots + 4 ≤ R.slots) (hdg : decode cc pc = .ok (.anewarray index, 3))
    (kk : ∀ (q : Nat) (H1 : Heap), va_P (dC, dI) vwCl (ws ++ [(q, .inl (dA 2, 4, .inr (.inr (.inr (.inr (fun _ => none))))))]) H1 → va_D A (ws ++ [(q, .inl (dA 2, 4, .inr (.inr (.inr (.inr (fun _ => none))))))]) → va_S A H0 H1 locs → W p l e R s m args below meth c H1 locs (cells + 1) (slots + 4) Q (F0 m (pc + 3) ls (.ref q :: rest))) : W p l e R s m args below meth c H locs cells slots Q (F0 m pc ls (.int z :: rest)) := by
  subst hz
  refine va_newq (C := RX1) (N' := 4) hx hb hown hcl hover hK hP hD hS hA (by decide) (by decide) (by decide) hcells hslots hdg (fun q cA H1 hK1 hP1 hD1 hS1 => ?_)
  obtain ⟨-, -, -, -, -, e1⟩ := (hK1.2 3 (cA, .object RX1) rfl).2
  obtain ⟨-, -, -, -, -, e2⟩ := (hK.2 2 (dA 2, .object "TubSteps$Sheet") rfl).2
  have e3 : cA = dA 2 := Option.some.inj (e1.symm.trans e2)
  subst e3
  exact kk q H1 hP1 hD1 hS1
/-- a number goes into an int array -/
theorem rv_astI (hx : p.tables.exec = Jvm.exec) (hb : c.code = cc) (hK : va_K (dC, dI) vwCl (rv_tys dA) s) (hP : va_P (dC, dI) vwCl ws H) (hD : va_D A ws) (hS : va_S A H0 H locs) (q0 : Nat) {n : Nat} {f : Nat → Int32} (he : ws[q0]? = some (a, arI dA n f)) {z x : Int32} {i : Nat} (hz : z = nI i) (hi : i < n) (hn : n ≤ 1000) (hdg : decode cc pc = .ok (.iastore, 1))
    (kk : ∀ (H1 : Heap) (locs1 : List Loc), va_P (dC, dI) vwCl (ws.set q0 (a, arI dA n (upd f i x))) H1 → va_D A (ws.set q0 (a, arI dA n (upd f i x))) → va_S A H0 H1 locs1 → W p l e R s m args below meth c H1 locs1 cells slots Q (F0 m (pc + 1) ls rest)) : W p l e R s m args below meth c H locs cells slots Q (F0 m pc ls (.int x :: .int z :: .ref a :: rest)) := by
  subst hz
  have hq : q0 < ws.length := (List.getElem?_eq_some_iff.mp he).1
  refine va_iast hx hb hK hP hD hS q0 0 he rfl (by rw [rv_tab_len]; exact vp_in_nI hi (by omega)) hdg (fun H1 locs1 hP1 hD1 hS1 => ?_)
  have ec : vp_cell (dA 0) ((rv_tab n f).length, .inl (upd (fun j => (rv_tab n f).getD j 0) (nI i).toNatClampNeg x)) = vp_cell (dA 0) ((rv_tab n (upd f i x)).length, .inl (fun j => (rv_tab n (upd f i x)).getD j 0)) := by
    rw [ar_cell, vp_cell_i, rv_tab_len, nI_clamp (by omega)]
    refine arrV_congr (fun j hj => ?_)
    unfold upd
    by_cases ej : j = i
    · rw [if_pos ej, if_pos ej]
    · rw [if_neg ej, if_neg ej]
      exact congrArg Value.int (rv_getD_tab n f hj)
  have key : ∀ (k : Nat) (q : Nat × va_E), (ws.set q0 (a, arI dA n (upd f i x)))[k]? = some q → va_at (dC, dI) vwCl q H1 := by
    intro k q hk
    by_cases ek : q0 = k
    · subst ek
      rw [List.getElem?_set, if_pos rfl, if_pos hq] at hk
      cases hk
      have h1 := hP1 q0 _ (by rw [List.getElem?_set, if_pos rfl, if_pos hq])
      show H1[a]? = some (vp_cell _ _)
      rw [← ec]
      exact h1
    · rw [List.getElem?_set, if_neg ek] at hk
      exact hP1 k q (by rw [List.getElem?_set, if_neg ek]; exact hk)
  exact kk H1 locs1 key (hD.set he) hS1
/-- a field of ours, final or not -/
theorem bn_put (hx : p.tables.exec = Jvm.exec) (hb : c.code = cc) {own : String} {T : u_T} {N ci index : Nat} (hown : s.vm.findClass own = some m.cls) (hts : ∀ w ∈ rv_T, w.before args s = true) (hin : meth.name = "<init>") (hK : va_K (dC, dI) vwCl (rv_tys dA) s) (hP : va_P (dC, dI) vwCl ws H) (hD : va_D A ws) (hS : va_S A H0 H locs) (q0 : Nat) {fs : List Value} (he : ws[q0]? = some (a, .inr (ci, fs))) (hc : vwCl[ci]? = some (own, T, N)) (k : Nat) (hk : k < N) (pos : Nat) (hlink : rv_w pos (.fieldLink own index (T k).1 (T k).2.1 (T k).2.2.1) = true) (hdecl : (T k).1 = own) {ty : FieldType} {v : Value} (hd : parseFieldDescriptor (T k).2.2.1 = some ty) (hn : narrow ty v = v) (hfit : fits ty v = true) (hl : k < fs.length) (hdg : decode cc pc = .ok (.putfield index, 3))
    (kk : ∀ (H1 : Heap) (locs1 : List Loc), va_P (dC, dI) vwCl (ws.set q0 (a, .inr (ci, fs.set k v))) H1 → va_D A (ws.set q0 (a, .inr (ci, fs.set k v))) → va_S A H0 H1 locs1 → W p l e R s m args below meth c H1 locs1 cells slots Q (F0 m (pc + 3) ls rest)) : W p l e R s m args below meth c H locs cells slots Q (F0 m pc ls (v :: .ref a :: rest)) := by
  obtain ⟨ty0, hty0, hnm⟩ := rv_cl_ty ci _ hc
  cases hfin : (T k).2.2.2 with
  | false => exact va_put (D := (dC, dI)) (ci := ci) (C := own) (T := T) (N := N) (ref := (T k).1) hx hb hts (rv_cl_in ci _ hc) ty0 hty0 hnm hown hK hP hD hS q0 he hc k hk (hts _ (rv_w_in hlink)) (fun _ h9 => h9) hfin hd hn hfit hl hdg kk
  | true => exact va_putF (D := (dC, dI)) (ci := ci) (C := own) (T := T) (N := N) (ref := (T k).1) hx hb hts (rv_cl_in ci _ hc) ty0 hty0 hnm hown hK hP hD hS q0 he hc k hk (hts _ (rv_w_in hlink)) (fun _ h9 => h9) hfin hin hdecl hd hn hfit hl hdg kk
/-- a reference out of a field of ours -/
theorem bn_get (hx : p.tables.exec = Jvm.exec) (hb : c.code = cc) {own : String} {T : u_T} {N ci index : Nat} (hown : s.vm.findClass own = some m.cls) (hts : ∀ w ∈ rv_T, w.before args s = true) (hK : va_K (dC, dI) vwCl (rv_tys dA) s) (hP : va_P (dC, dI) vwCl ws H) (q0 : Nat) {fs : List Value} (he : ws[q0]? = some (a, .inr (ci, fs))) (hc : vwCl[ci]? = some (own, T, N)) (k : Nat) (hk : k < N) (pos : Nat) (hlink : rv_w pos (.fieldLink own index (T k).1 (T k).2.1 (T k).2.2.1) = true) {v : Value} (hv : fs[k]? = some v) (hdg : decode cc pc = .ok (.getfield index, 3))
    (kk : W p l e R s m args below meth c H locs cells slots Q (F0 m (pc + 3) ls (v :: rest))) : W p l e R s m args below meth c H locs cells slots Q (F0 m pc ls (.ref a :: rest)) :=
  va_get (D := (dC, dI)) (ci := ci) (C := own) (T := T) (N := N) (ref := (T k).1) hx hb hts (rv_cl_in ci _ hc) hown hK hP q0 he hc k hk (hts _ (rv_w_in hlink)) (fun _ h9 => h9) hv hdg kk
end BORN
/-! THE FIRST ROW -/
def s0 (i : Nat) : Int32 := if i = 2 then 90 else if i = 3 then 1 else if 86 ≤ i ∧ i < 96 then -1 else 0
theorem s0_z {i : Nat} (h : i < 2 ∨ (4 ≤ i ∧ i < 86) ∨ 96 ≤ i) : s0 i = 0 := by
  unfold s0
  rw [if_neg (by omega), if_neg (by omega), if_neg (by omega)]
theorem s0_m {i : Nat} (h : 86 ≤ i ∧ i < 96) : s0 i = -1 := by
  unfold s0
  rw [if_neg (by omega), if_neg (by omega), if_pos h]
