/-! THE CONSTRUCTORS of rows, sheets, the reader -/
theorem va_D1 (a : Nat) (x : va_E) (sz : Nat) : va_D (va_A [(a, x)] sz) [(a, x)] := by
  refine ⟨fun i j p q hi hj _ => ?_, fun k q hk => va_A.in hk⟩
  have h1 : i < 1 := (List.getElem?_eq_some_iff.mp hi).1
  have h2 : j < 1 := (List.getElem?_eq_some_iff.mp hj).1
  omega
theorem rv_initG {y : MethodName} {b : ByteArray} {n pos : Nat} (h : rv_w pos (.code y b n none) = true) : GoodIn rv_T (.code y b n none :: rv_T) := rv_good (fun w hw => by
  rcases List.mem_cons.mp hw with rfl | hw
  · exact rv_w_in h
  · exact hw)
set_option maxHeartbeats 4000000 in
set_option maxRecDepth 100000 in
theorem c_X1 (l : Launch) (dC : Nat → ClassId) (dI : Nat → Nat → Nat) (dA : Nat → ClassId) (h0 sz : Nat) : Met l yX1_init (.code yX1_init cX1_init 1 none :: rv_T) ({ frames := 1, cells := 1, slots := 40, locals := 12 }) (va_Pc [.ref h0] (fun U => U.heap.size = sz ∧ va_P (dC, dI) vwCl [(h0, .inr (0, [.null, .int 0, .int 0]))] U.heap ∧ va_K (dC, dI) vwCl (rv_tys dA) U)) (va_Qv (fun _ : Unit => True) (fun _ t => ∃ q1, va_P (dC, dI) vwCl [(h0, .inr (0, [.ref q1, .int 0, .int 0])), (q1, arI dA 40 (fun _ => 0))] t.heap ∧ va_D (va_A [(h0, .inr (0, [.null, .int 0, .int 0]))] sz) [(h0, .inr (0, [.ref q1, .int 0, .int 0])), (q1, arI dA 40 (fun _ => 0))]) (va_A [(h0, .inr (0, [.null, .int 0, .int 0]))] sz)) 1 40 (va_A [(h0, .inr (0, [.null, .int 0, .int 0]))] sz) := by
  refine Met.ofW (cc := cX1_init) (maxL := 1) (ret := none) (by decide +kernel) rfl ?_
  intro p e s m args below meth c s₁ B hml hv
  obtain ⟨rfl, hsz, hP, hK⟩ := hv
  have hx := B.exec
  have hb := B.bytes
  have hr := B.returns
  have hts0 := atoms_spec (ws := .code yX1_init cX1_init 1 none :: rv_T) B.pre
  have hts : ∀ w ∈ rv_T, w.before _ s = true := fun w hw => hts0 w (List.mem_cons_of_mem _ hw)
  have hown : s.vm.findClass RX1 = some m.cls := findClass_of_methodNamed B.named
  have hlocks := B.notSynchronized
  have hin : meth.name = "<init>" := (name_of_methodNamed B.named B.method).1
  subst hsz
  have hD : va_D (va_A [(h0, .inr (0, [.null, .int 0, .int 0]))] s.heap.size) [(h0, .inr (0, [.null, .int 0, .int 0]))] := va_D1 h0 _ _
  generalize hAe : va_A [(h0, .inr (0, [.null, .int 0, .int 0]))] s.heap.size = A at hD ⊢
  have hA : ∀ q : Nat, s.heap.size ≤ q → A q := fun q h => by rw [← hAe]; exact Or.inr h
  have hS : va_S A s.heap s.heap [] := va_S.rf
  have hP : va_P (dC, dI) vwCl [(h0, .inr (0, [.null, .int 0, .int 0]))] s.heap := hP
  have hl := lv_entry ([.ref h0]) (n := 1) (Nat.le_of_ble_eq_true rfl)
  rw [lg_entry_eq]
  generalize (lg_sl ([.ref h0]) ++ List.replicate (1 - (lg_sl ([.ref h0])).length) Slot.unset).toArray = ls at hl ⊢
  have hl : lv_has ls 1 [(0, .ref h0)] := hl
  refine lv_aload_n hx hb diX1_0 rfl (lv_at hl 0 rfl) ?_
  refine W.objInit hx hb hown (hts _ (rv_w_in (i := 174) (by decide +kernel))) (hts _ (rv_w_in (i := 83) (by decide +kernel))) (hts _ (rv_w_in (i := 84) (w := .code Lib.objectInit ⟨#[0xb1]⟩ 1 none) (by decide +kernel))) rfl (by rw [hml]; exact hl.1) rfl diX1_1 (Nat.le_of_ble_eq_true rfl) (Nat.le_of_ble_eq_true rfl) ?_
  refine W.eq (g2 := F0 m 4 ls []) rfl ?_
  refine lv_aload_n hx hb diX1_4 rfl (lv_at hl 0 rfl) ?_
  refine lv_bipush (v := 40) hx hb diX1_5 (by decide) ?_
  refine rv_newI hx hb (hts _ (rv_w_in gw_aI)) hK hP hD hS hA 40 (fun _ => 0) (fun _ _ => rfl) (by decide) (z := 40) rfl (Nat.le_of_ble_eq_true rfl) (Nat.le_of_ble_eq_true rfl) diX1_7 (fun q1 H hP hD hS => ?_)
  have hP : va_P (dC, dI) vwCl [(h0, .inr (0, [.null, .int 0, .int 0])), (q1, arI dA 40 (fun _ => 0))] H := hP
  have hD : va_D A [(h0, .inr (0, [.null, .int 0, .int 0])), (q1, arI dA 40 (fun _ => 0))] := hD
  refine W.widen (k := 1) (n := 40) (Nat.le_of_ble_eq_true rfl) (Nat.le_of_ble_eq_true rfl) ?_
  refine bn_put (ci := 0) (own := RX1) (T := TX1) (N := 3) (ty := .array .int) (v := .ref q1) hx hb hown hts hin hK hP hD hS 0 rfl rfl 0 (by decide) 175 (by decide +kernel) rfl (by decide +kernel) rfl rfl (Nat.le_of_ble_eq_true rfl) diX1_9 (fun H locs hP hD hS => ?_)
  have hP : va_P (dC, dI) vwCl [(h0, .inr (0, [.ref q1, .int 0, .int 0])), (q1, arI dA 40 (fun _ => 0))] H := hP
  have hD : va_D A [(h0, .inr (0, [.ref q1, .int 0, .int 0])), (q1, arI dA 40 (fun _ => 0))] := hD
  refine lv_aload_n hx hb diX1_12 rfl (lv_at hl 0 rfl) ?_
  refine lv_iconst (v := 0) hx hb diX1_13 (by decide) ?_
  refine bn_put (ci := 0) (own := RX1) (T := TX1) (N := 3) (ty := .int) (v := .int 0) hx hb hown hts hin hK hP hD hS 0 rfl rfl 1 (by decide) 177 (by decide +kernel) rfl (by decide +kernel) rfl rfl (Nat.le_of_ble_eq_true rfl) diX1_14 (fun H locs hP hD hS => ?_)
  have hP : va_P (dC, dI) vwCl [(h0, .inr (0, [.ref q1, .int 0, .int 0])), (q1, arI dA 40 (fun _ => 0))] H := hP
  have hD : va_D A [(h0, .inr (0, [.ref q1, .int 0, .int 0])), (q1, arI dA 40 (fun _ => 0))] := hD
  refine lv_aload_n hx hb diX1_17 rfl (lv_at hl 0 rfl) ?_
  refine lv_iconst (v := 0) hx hb diX1_18 (by decide) ?_
  refine bn_put (ci := 0) (own := RX1) (T := TX1) (N := 3) (ty := .int) (v := .int 0) hx hb hown hts hin hK hP hD hS 0 rfl rfl 2 (by decide) 179 (by decide +kernel) rfl (by decide +kernel) rfl rfl (Nat.le_of_ble_eq_true rfl) diX1_19 (fun H locs hP hD hS => ?_)
  have hP : va_P (dC, dI) vwCl [(h0, .inr (0, [.ref q1, .int 0, .int 0])), (q1, arI dA 40 (fun _ => 0))] H := hP
  have hD : va_D A [(h0, .inr (0, [.ref q1, .int 0, .int 0])), (q1, arI dA 40 (fun _ => 0))] := hD
  exact W.vret hx hb hr (fun t ht hW => ⟨⟨(), rfl, trivial, q1, by rw [ht]; exact hP, hD⟩, hS.F ht⟩) hS.2.2 diX1_22
set_option maxHeartbeats 4000000 in
set_option maxRecDepth 100000 in
theorem c_X3 (l : Launch) (dC : Nat → ClassId) (dI : Nat → Nat → Nat) (dA : Nat → ClassId) (h0 sz : Nat) : Met l yX3_init (.code yX3_init cX3_init 1 none :: rv_T) ({ frames := 1, cells := 1, slots := 0, locals := 12 }) (va_Pc [.ref h0] (fun U => U.heap.size = sz ∧ va_P (dC, dI) vwCl [(h0, .inr (2, [.null, .int 0, .int 0, .int 0, .int 0, .int 0]))] U.heap ∧ va_K (dC, dI) vwCl (rv_tys dA) U)) (va_Qv (fun _ : Unit => True) (fun _ t => ∃ q1, va_P (dC, dI) vwCl [(h0, .inr (2, [.ref q1, .int 0, .int 0, .int 0, .int 0, .int 0])), (q1, arB dA 0 (fun _ => 0))] t.heap ∧ va_D (va_A [(h0, .inr (2, [.null, .int 0, .int 0, .int 0, .int 0, .int 0]))] sz) [(h0, .inr (2, [.ref q1, .int 0, .int 0, .int 0, .int 0, .int 0])), (q1, arB dA 0 (fun _ => 0))]) (va_A [(h0, .inr (2, [.null, .int 0, .int 0, .int 0, .int 0, .int 0]))] sz)) 1 0 (va_A [(h0, .inr (2, [.null, .int 0, .int 0, .int 0, .int 0, .int 0]))] sz) := by
  refine Met.ofW (cc := cX3_init) (maxL := 1) (ret := none) (by decide +kernel) rfl ?_
  intro p e s m args below meth c s₁ B hml hv
  obtain ⟨rfl, hsz, hP, hK⟩ := hv
  have hx := B.exec
  have hb := B.bytes
  have hr := B.returns
  have hts0 := atoms_spec (ws := .code yX3_init cX3_init 1 none :: rv_T) B.pre
  have hts : ∀ w ∈ rv_T, w.before _ s = true := fun w hw => hts0 w (List.mem_cons_of_mem _ hw)
  have hown : s.vm.findClass RX3 = some m.cls := findClass_of_methodNamed B.named
  have hlocks := B.notSynchronized
  have hin : meth.name = "<init>" := (name_of_methodNamed B.named B.method).1
  subst hsz
  have hD : va_D (va_A [(h0, .inr (2, [.null, .int 0, .int 0, .int 0, .int 0, .int 0]))] s.heap.size) [(h0, .inr (2, [.null, .int 0, .int 0, .int 0, .int 0, .int 0]))] := va_D1 h0 _ _
  generalize hAe : va_A [(h0, .inr (2, [.null, .int 0, .int 0, .int 0, .int 0, .int 0]))] s.heap.size = A at hD ⊢
  have hA : ∀ q : Nat, s.heap.size ≤ q → A q := fun q h => by rw [← hAe]; exact Or.inr h
  have hS : va_S A s.heap s.heap [] := va_S.rf
  have hP : va_P (dC, dI) vwCl [(h0, .inr (2, [.null, .int 0, .int 0, .int 0, .int 0, .int 0]))] s.heap := hP
  have hl := lv_entry ([.ref h0]) (n := 1) (Nat.le_of_ble_eq_true rfl)
  rw [lg_entry_eq]
  generalize (lg_sl ([.ref h0]) ++ List.replicate (1 - (lg_sl ([.ref h0])).length) Slot.unset).toArray = ls at hl ⊢
  have hl : lv_has ls 1 [(0, .ref h0)] := hl
  refine lv_aload_n hx hb diX3_0 rfl (lv_at hl 0 rfl) ?_
  refine W.objInit hx hb hown (hts _ (rv_w_in (i := 149) (by decide +kernel))) (hts _ (rv_w_in (i := 83) (by decide +kernel))) (hts _ (rv_w_in (i := 84) (w := .code Lib.objectInit ⟨#[0xb1]⟩ 1 none) (by decide +kernel))) rfl (by rw [hml]; exact hl.1) rfl diX3_1 (Nat.le_of_ble_eq_true rfl) (Nat.le_of_ble_eq_true rfl) ?_
  refine W.eq (g2 := F0 m 4 ls []) rfl ?_
  refine lv_aload_n hx hb diX3_4 rfl (lv_at hl 0 rfl) ?_
  refine lv_iconst (v := 0) hx hb diX3_5 (by decide) ?_
  refine rv_newB hx hb (hts _ (rv_w_in gw_aB)) hK hP hD hS hA 0 (fun _ => 0) (fun _ _ => rfl) (by decide) (z := 0) rfl (Nat.le_of_ble_eq_true rfl) (Nat.le_of_ble_eq_true rfl) diX3_6 (fun q1 H hP hD hS => ?_)
  have hP : va_P (dC, dI) vwCl [(h0, .inr (2, [.null, .int 0, .int 0, .int 0, .int 0, .int 0])), (q1, arB dA 0 (fun _ => 0))] H := hP
  have hD : va_D A [(h0, .inr (2, [.null, .int 0, .int 0, .int 0, .int 0, .int 0])), (q1, arB dA 0 (fun _ => 0))] := hD
  refine W.widen (k := 1) (n := 0) (Nat.le_of_ble_eq_true rfl) (Nat.le_of_ble_eq_true rfl) ?_
  refine bn_put (ci := 2) (own := RX3) (T := TX3) (N := 6) (ty := .array .byte) (v := .ref q1) hx hb hown hts hin hK hP hD hS 0 rfl rfl 0 (by decide) 150 (by decide +kernel) rfl (by decide +kernel) rfl rfl (Nat.le_of_ble_eq_true rfl) diX3_8 (fun H locs hP hD hS => ?_)
  have hP : va_P (dC, dI) vwCl [(h0, .inr (2, [.ref q1, .int 0, .int 0, .int 0, .int 0, .int 0])), (q1, arB dA 0 (fun _ => 0))] H := hP
  have hD : va_D A [(h0, .inr (2, [.ref q1, .int 0, .int 0, .int 0, .int 0, .int 0])), (q1, arB dA 0 (fun _ => 0))] := hD
  refine lv_aload_n hx hb diX3_11 rfl (lv_at hl 0 rfl) ?_
  refine lv_iconst (v := 0) hx hb diX3_12 (by decide) ?_
  refine bn_put (ci := 2) (own := RX3) (T := TX3) (N := 6) (ty := .int) (v := .int 0) hx hb hown hts hin hK hP hD hS 0 rfl rfl 1 (by decide) 151 (by decide +kernel) rfl (by decide +kernel) rfl rfl (Nat.le_of_ble_eq_true rfl) diX3_13 (fun H locs hP hD hS => ?_)
  have hP : va_P (dC, dI) vwCl [(h0, .inr (2, [.ref q1, .int 0, .int 0, .int 0, .int 0, .int 0])), (q1, arB dA 0 (fun _ => 0))] H := hP
  have hD : va_D A [(h0, .inr (2, [.ref q1, .int 0, .int 0, .int 0, .int 0, .int 0])), (q1, arB dA 0 (fun _ => 0))] := hD
  refine lv_aload_n hx hb diX3_16 rfl (lv_at hl 0 rfl) ?_
  refine lv_iconst (v := 0) hx hb diX3_17 (by decide) ?_
  refine bn_put (ci := 2) (own := RX3) (T := TX3) (N := 6) (ty := .int) (v := .int 0) hx hb hown hts hin hK hP hD hS 0 rfl rfl 2 (by decide) 152 (by decide +kernel) rfl (by decide +kernel) rfl rfl (Nat.le_of_ble_eq_true rfl) diX3_18 (fun H locs hP hD hS => ?_)
  have hP : va_P (dC, dI) vwCl [(h0, .inr (2, [.ref q1, .int 0, .int 0, .int 0, .int 0, .int 0])), (q1, arB dA 0 (fun _ => 0))] H := hP
  have hD : va_D A [(h0, .inr (2, [.ref q1, .int 0, .int 0, .int 0, .int 0, .int 0])), (q1, arB dA 0 (fun _ => 0))] := hD
  refine lv_aload_n hx hb diX3_21 rfl (lv_at hl 0 rfl) ?_
  refine lv_iconst (v := 0) hx hb diX3_22 (by decide) ?_
  refine bn_put (ci := 2) (own := RX3) (T := TX3) (N := 6) (ty := .int) (v := .int 0) hx hb hown hts hin hK hP hD hS 0 rfl rfl 3 (by decide) 153 (by decide +kernel) rfl (by decide +kernel) rfl rfl (Nat.le_of_ble_eq_true rfl) diX3_23 (fun H locs hP hD hS => ?_)
  have hP : va_P (dC, dI) vwCl [(h0, .inr (2, [.ref q1, .int 0, .int 0, .int 0, .int 0, .int 0])), (q1, arB dA 0 (fun _ => 0))] H := hP
  have hD : va_D A [(h0, .inr (2, [.ref q1, .int 0, .int 0, .int 0, .int 0, .int 0])), (q1, arB dA 0 (fun _ => 0))] := hD
  refine lv_aload_n hx hb diX3_26 rfl (lv_at hl 0 rfl) ?_
  refine lv_iconst (v := 0) hx hb diX3_27 (by decide) ?_
  refine bn_put (ci := 2) (own := RX3) (T := TX3) (N := 6) (ty := .int) (v := .int 0) hx hb hown hts hin hK hP hD hS 0 rfl rfl 4 (by decide) 154 (by decide +kernel) rfl (by decide +kernel) rfl rfl (Nat.le_of_ble_eq_true rfl) diX3_28 (fun H locs hP hD hS => ?_)
  have hP : va_P (dC, dI) vwCl [(h0, .inr (2, [.ref q1, .int 0, .int 0, .int 0, .int 0, .int 0])), (q1, arB dA 0 (fun _ => 0))] H := hP
  have hD : va_D A [(h0, .inr (2, [.ref q1, .int 0, .int 0, .int 0, .int 0, .int 0])), (q1, arB dA 0 (fun _ => 0))] := hD
  refine lv_aload_n hx hb diX3_31 rfl (lv_at hl 0 rfl) ?_
  refine lv_iconst (v := 0) hx hb diX3_32 (by decide) ?_
  refine bn_put (ci := 2) (own := RX3) (T := TX3) (N := 6) (ty := .int) (v := .int 0) hx hb hown hts hin hK hP hD hS 0 rfl rfl 5 (by decide) 155 (by decide +kernel) rfl (by decide +kernel) rfl rfl (Nat.le_of_ble_eq_true rfl) diX3_33 (fun H locs hP hD hS => ?_)
  have hP : va_P (dC, dI) vwCl [(h0, .inr (2, [.ref q1, .int 0, .int 0, .int 0, .int 0, .int 0])), (q1, arB dA 0 (fun _ => 0))] H := hP
  have hD : va_D A [(h0, .inr (2, [.ref q1, .int 0, .int 0, .int 0, .int 0, .int 0])), (q1, arB dA 0 (fun _ => 0))] := hD
  exact W.vret hx hb hr (fun t ht hW => ⟨⟨(), rfl, trivial, q1, by rw [ht]; exact hP, hD⟩, hS.F ht⟩) hS.2.2 diX3_36
theorem fill_s (i j : Nat) : upd (fun k => if k < i then (-1 : Int32) else 0) i (-1) j = if j < i + 1 then -1 else 0 := by
  show (if j = i then (-1 : Int32) else if j < i then -1 else 0) = _
  by_cases e : j = i
  · rw [if_pos e, if_pos (by omega)]
  · rw [if_neg e]
    by_cases h : j < i
    · rw [if_pos h, if_pos (by omega)]
    · rw [if_neg h, if_neg (by omega)]
set_option maxHeartbeats 4000000 in
set_option maxRecDepth 100000 in
theorem c_X2 (l : Launch) (dC : Nat → ClassId) (dI : Nat → Nat → Nat) (dA : Nat → ClassId) (h0 sz : Nat) : Met l yX2_init (.code yX2_init cX2_init 2 none :: rv_T) ({ frames := 1, cells := 7, slots := 92, locals := 12 }) (va_Pc [.ref h0] (fun U => U.heap.size = sz ∧ va_P (dC, dI) vwCl [(h0, .inr (1, [.null, .null, .null, .null, .null, .null, .null, .int 0, .int 0, .int 0, .int 0, .int 0]))] U.heap ∧ va_K (dC, dI) vwCl (rv_tys dA) U)) (va_Qv (fun _ : Unit => True) (fun _ t => ∃ q1 q2 q3 q4 q5 q6 q7, va_P (dC, dI) vwCl [(h0, .inr (1, [.ref q1, .ref q2, .ref q3, .ref q4, .ref q5, .ref q6, .ref q7, .int 0, .int 90, .int 0, .int 1, .int 0])), (q1, arI dA 10 (fun k => s0 (4 + k))), (q2, arI dA 40 (fun k => s0 (14 + k))), (q3, arI dA 8 (fun k => s0 (54 + 4 * k + 0))), (q4, arI dA 8 (fun k => s0 (54 + 4 * k + 1))), (q5, arI dA 8 (fun k => s0 (54 + 4 * k + 2))), (q6, arI dA 8 (fun k => s0 (54 + 4 * k + 3))), (q7, arI dA 10 (fun k => s0 (86 + k)))] t.heap ∧ va_D (va_A [(h0, .inr (1, [.null, .null, .null, .null, .null, .null, .null, .int 0, .int 0, .int 0, .int 0, .int 0]))] sz) [(h0, .inr (1, [.ref q1, .ref q2, .ref q3, .ref q4, .ref q5, .ref q6, .ref q7, .int 0, .int 90, .int 0, .int 1, .int 0])), (q1, arI dA 10 (fun k => s0 (4 + k))), (q2, arI dA 40 (fun k => s0 (14 + k))), (q3, arI dA 8 (fun k => s0 (54 + 4 * k + 0))), (q4, arI dA 8 (fun k => s0 (54 + 4 * k + 1))), (q5, arI dA 8 (fun k => s0 (54 + 4 * k + 2))), (q6, arI dA 8 (fun k => s0 (54 + 4 * k + 3))), (q7, arI dA 10 (fun k => s0 (86 + k)))]) (va_A [(h0, .inr (1, [.null, .null, .null, .null, .null, .null, .null, .int 0, .int 0, .int 0, .int 0, .int 0]))] sz)) 7 92 (va_A [(h0, .inr (1, [.null, .null, .null, .null, .null, .null, .null, .int 0, .int 0, .int 0, .int 0, .int 0]))] sz) := by
  refine Met.ofW (cc := cX2_init) (maxL := 2) (ret := none) (by decide +kernel) rfl ?_
  intro p e s m args below meth c s₁ B hml hv
  obtain ⟨rfl, hsz, hP, hK⟩ := hv
  have hx := B.exec
  have hb := B.bytes
  have hr := B.returns
  have hts0 := atoms_spec (ws := .code yX2_init cX2_init 2 none :: rv_T) B.pre
  have hts : ∀ w ∈ rv_T, w.before _ s = true := fun w hw => hts0 w (List.mem_cons_of_mem _ hw)
  have hown : s.vm.findClass RX2 = some m.cls := findClass_of_methodNamed B.named
  have hlocks := B.notSynchronized
  have hin : meth.name = "<init>" := (name_of_methodNamed B.named B.method).1
  subst hsz
  have hD : va_D (va_A [(h0, .inr (1, [.null, .null, .null, .null, .null, .null, .null, .int 0, .int 0, .int 0, .int 0, .int 0]))] s.heap.size) [(h0, .inr (1, [.null, .null, .null, .null, .null, .null, .null, .int 0, .int 0, .int 0, .int 0, .int 0]))] := va_D1 h0 _ _
  generalize hAe : va_A [(h0, .inr (1, [.null, .null, .null, .null, .null, .null, .null, .int 0, .int 0, .int 0, .int 0, .int 0]))] s.heap.size = A at hD ⊢
  have hA : ∀ q : Nat, s.heap.size ≤ q → A q := fun q h => by rw [← hAe]; exact Or.inr h
  have hS : va_S A s.heap s.heap [] := va_S.rf
  have hP : va_P (dC, dI) vwCl [(h0, .inr (1, [.null, .null, .null, .null, .null, .null, .null, .int 0, .int 0, .int 0, .int 0, .int 0]))] s.heap := hP
  have hl := lv_entry ([.ref h0]) (n := 2) (Nat.le_of_ble_eq_true rfl)
  rw [lg_entry_eq]
  generalize (lg_sl ([.ref h0]) ++ List.replicate (2 - (lg_sl ([.ref h0])).length) Slot.unset).toArray = ls at hl ⊢
  have hl : lv_has ls 2 [(0, .ref h0)] := hl
  refine lv_aload_n hx hb diX2_0 rfl (lv_at hl 0 rfl) ?_
  refine W.objInit hx hb hown (hts _ (rv_w_in (i := 90) (by decide +kernel))) (hts _ (rv_w_in (i := 83) (by decide +kernel))) (hts _ (rv_w_in (i := 84) (w := .code Lib.objectInit ⟨#[0xb1]⟩ 1 none) (by decide +kernel))) rfl (by rw [hml]; exact hl.1) rfl diX2_1 (Nat.le_of_ble_eq_true rfl) (Nat.le_of_ble_eq_true rfl) ?_
  refine W.eq (g2 := F0 m 4 ls []) rfl ?_
  refine lv_aload_n hx hb diX2_4 rfl (lv_at hl 0 rfl) ?_
  refine lv_bipush (v := 10) hx hb diX2_5 (by decide) ?_
  refine rv_newI hx hb (hts _ (rv_w_in gw_aI)) hK hP hD hS hA 10 (fun k => s0 (4 + k)) (fun j hj => s0_z (by omega)) (by decide) (z := 10) rfl (Nat.le_of_ble_eq_true rfl) (Nat.le_of_ble_eq_true rfl) diX2_7 (fun q1 H hP hD hS => ?_)
  have hP : va_P (dC, dI) vwCl [(h0, .inr (1, [.null, .null, .null, .null, .null, .null, .null, .int 0, .int 0, .int 0, .int 0, .int 0])), (q1, arI dA 10 (fun k => s0 (4 + k)))] H := hP
  have hD : va_D A [(h0, .inr (1, [.null, .null, .null, .null, .null, .null, .null, .int 0, .int 0, .int 0, .int 0, .int 0])), (q1, arI dA 10 (fun k => s0 (4 + k)))] := hD
  refine W.widen (k := 1) (n := 10) (Nat.le_of_ble_eq_true rfl) (Nat.le_of_ble_eq_true rfl) ?_
  refine bn_put (ci := 1) (own := RX2) (T := TX2) (N := 12) (ty := .array .int) (v := .ref q1) hx hb hown hts hin hK hP hD hS 0 rfl rfl 0 (by decide) 91 (by decide +kernel) rfl (by decide +kernel) rfl rfl (Nat.le_of_ble_eq_true rfl) diX2_9 (fun H locs hP hD hS => ?_)
  have hP : va_P (dC, dI) vwCl [(h0, .inr (1, [.ref q1, .null, .null, .null, .null, .null, .null, .int 0, .int 0, .int 0, .int 0, .int 0])), (q1, arI dA 10 (fun k => s0 (4 + k)))] H := hP
  have hD : va_D A [(h0, .inr (1, [.ref q1, .null, .null, .null, .null, .null, .null, .int 0, .int 0, .int 0, .int 0, .int 0])), (q1, arI dA 10 (fun k => s0 (4 + k)))] := hD
  refine lv_aload_n hx hb diX2_12 rfl (lv_at hl 0 rfl) ?_
  refine lv_bipush (v := 40) hx hb diX2_13 (by decide) ?_
  refine rv_newI hx hb (hts _ (rv_w_in gw_aI)) hK hP hD hS hA 40 (fun k => s0 (14 + k)) (fun j hj => s0_z (by omega)) (by decide) (z := 40) rfl (Nat.le_of_ble_eq_true rfl) (Nat.le_of_ble_eq_true rfl) diX2_15 (fun q2 H hP hD hS => ?_)
  have hP : va_P (dC, dI) vwCl [(h0, .inr (1, [.ref q1, .null, .null, .null, .null, .null, .null, .int 0, .int 0, .int 0, .int 0, .int 0])), (q1, arI dA 10 (fun k => s0 (4 + k))), (q2, arI dA 40 (fun k => s0 (14 + k)))] H := hP
  have hD : va_D A [(h0, .inr (1, [.ref q1, .null, .null, .null, .null, .null, .null, .int 0, .int 0, .int 0, .int 0, .int 0])), (q1, arI dA 10 (fun k => s0 (4 + k))), (q2, arI dA 40 (fun k => s0 (14 + k)))] := hD
  refine W.widen (k := 2) (n := 50) (Nat.le_of_ble_eq_true rfl) (Nat.le_of_ble_eq_true rfl) ?_
  refine bn_put (ci := 1) (own := RX2) (T := TX2) (N := 12) (ty := .array .int) (v := .ref q2) hx hb hown hts hin hK hP hD hS 0 rfl rfl 1 (by decide) 94 (by decide +kernel) rfl (by decide +kernel) rfl rfl (Nat.le_of_ble_eq_true rfl) diX2_17 (fun H locs hP hD hS => ?_)
  have hP : va_P (dC, dI) vwCl [(h0, .inr (1, [.ref q1, .ref q2, .null, .null, .null, .null, .null, .int 0, .int 0, .int 0, .int 0, .int 0])), (q1, arI dA 10 (fun k => s0 (4 + k))), (q2, arI dA 40 (fun k => s0 (14 + k)))] H := hP
  have hD : va_D A [(h0, .inr (1, [.ref q1, .ref q2, .null, .null, .null, .null, .null, .int 0, .int 0, .int 0, .int 0, .int 0])), (q1, arI dA 10 (fun k => s0 (4 + k))), (q2, arI dA 40 (fun k => s0 (14 + k)))] := hD
  refine lv_aload_n hx hb diX2_20 rfl (lv_at hl 0 rfl) ?_
  refine lv_bipush (v := 8) hx hb diX2_21 (by decide) ?_
  refine rv_newI hx hb (hts _ (rv_w_in gw_aI)) hK hP hD hS hA 8 (fun k => s0 (54 + 4 * k + 0)) (fun j hj => s0_z (by omega)) (by decide) (z := 8) rfl (Nat.le_of_ble_eq_true rfl) (Nat.le_of_ble_eq_true rfl) diX2_23 (fun q3 H hP hD hS => ?_)
  have hP : va_P (dC, dI) vwCl [(h0, .inr (1, [.ref q1, .ref q2, .null, .null, .null, .null, .null, .int 0, .int 0, .int 0, .int 0, .int 0])), (q1, arI dA 10 (fun k => s0 (4 + k))), (q2, arI dA 40 (fun k => s0 (14 + k))), (q3, arI dA 8 (fun k => s0 (54 + 4 * k + 0)))] H := hP
  have hD : va_D A [(h0, .inr (1, [.ref q1, .ref q2, .null, .null, .null, .null, .null, .int 0, .int 0, .int 0, .int 0, .int 0])), (q1, arI dA 10 (fun k => s0 (4 + k))), (q2, arI dA 40 (fun k => s0 (14 + k))), (q3, arI dA 8 (fun k => s0 (54 + 4 * k + 0)))] := hD
  refine W.widen (k := 3) (n := 58) (Nat.le_of_ble_eq_true rfl) (Nat.le_of_ble_eq_true rfl) ?_
  refine bn_put (ci := 1) (own := RX2) (T := TX2) (N := 12) (ty := .array .int) (v := .ref q3) hx hb hown hts hin hK hP hD hS 0 rfl rfl 2 (by decide) 95 (by decide +kernel) rfl (by decide +kernel) rfl rfl (Nat.le_of_ble_eq_true rfl) diX2_25 (fun H locs hP hD hS => ?_)
  have hP : va_P (dC, dI) vwCl [(h0, .inr (1, [.ref q1, .ref q2, .ref q3, .null, .null, .null, .null, .int 0, .int 0, .int 0, .int 0, .int 0])), (q1, arI dA 10 (fun k => s0 (4 + k))), (q2, arI dA 40 (fun k => s0 (14 + k))), (q3, arI dA 8 (fun k => s0 (54 + 4 * k + 0)))] H := hP
  have hD : va_D A [(h0, .inr (1, [.ref q1, .ref q2, .ref q3, .null, .null, .null, .null, .int 0, .int 0, .int 0, .int 0, .int 0])), (q1, arI dA 10 (fun k => s0 (4 + k))), (q2, arI dA 40 (fun k => s0 (14 + k))), (q3, arI dA 8 (fun k => s0 (54 + 4 * k + 0)))] := hD
  refine lv_aload_n hx hb diX2_28 rfl (lv_at hl 0 rfl) ?_
  refine lv_bipush (v := 8) hx hb diX2_29 (by decide) ?_
  refine rv_newI hx hb (hts _ (rv_w_in gw_aI)) hK hP hD hS hA 8 (fun k => s0 (54 + 4 * k + 1)) (fun j hj => s0_z (by omega)) (by decide) (z := 8) rfl (Nat.le_of_ble_eq_true rfl) (Nat.le_of_ble_eq_true rfl) diX2_31 (fun q4 H hP hD hS => ?_)
  have hP : va_P (dC, dI) vwCl [(h0, .inr (1, [.ref q1, .ref q2, .ref q3, .null, .null, .null, .null, .int 0, .int 0, .int 0, .int 0, .int 0])), (q1, arI dA 10 (fun k => s0 (4 + k))), (q2, arI dA 40 (fun k => s0 (14 + k))), (q3, arI dA 8 (fun k => s0 (54 + 4 * k + 0))), (q4, arI dA 8 (fun k => s0 (54 + 4 * k + 1)))] H := hP
  have hD : va_D A [(h0, .inr (1, [.ref q1, .ref q2, .ref q3, .null, .null, .null, .null, .int 0, .int 0, .int 0, .int 0, .int 0])), (q1, arI dA 10 (fun k => s0 (4 + k))), (q2, arI dA 40 (fun k => s0 (14 + k))), (q3, arI dA 8 (fun k => s0 (54 + 4 * k + 0))), (q4, arI dA 8 (fun k => s0 (54 + 4 * k + 1)))] := hD
  refine W.widen (k := 4) (n := 66) (Nat.le_of_ble_eq_true rfl) (Nat.le_of_ble_eq_true rfl) ?_
  refine bn_put (ci := 1) (own := RX2) (T := TX2) (N := 12) (ty := .array .int) (v := .ref q4) hx hb hown hts hin hK hP hD hS 0 rfl rfl 3 (by decide) 97 (by decide +kernel) rfl (by decide +kernel) rfl rfl (Nat.le_of_ble_eq_true rfl) diX2_33 (fun H locs hP hD hS => ?_)
  have hP : va_P (dC, dI) vwCl [(h0, .inr (1, [.ref q1, .ref q2, .ref q3, .ref q4, .null, .null, .null, .int 0, .int 0, .int 0, .int 0, .int 0])), (q1, arI dA 10 (fun k => s0 (4 + k))), (q2, arI dA 40 (fun k => s0 (14 + k))), (q3, arI dA 8 (fun k => s0 (54 + 4 * k + 0))), (q4, arI dA 8 (fun k => s0 (54 + 4 * k + 1)))] H := hP
  have hD : va_D A [(h0, .inr (1, [.ref q1, .ref q2, .ref q3, .ref q4, .null, .null, .null, .int 0, .int 0, .int 0, .int 0, .int 0])), (q1, arI dA 10 (fun k => s0 (4 + k))), (q2, arI dA 40 (fun k => s0 (14 + k))), (q3, arI dA 8 (fun k => s0 (54 + 4 * k + 0))), (q4, arI dA 8 (fun k => s0 (54 + 4 * k + 1)))] := hD
  refine lv_aload_n hx hb diX2_36 rfl (lv_at hl 0 rfl) ?_
  refine lv_bipush (v := 8) hx hb diX2_37 (by decide) ?_
  refine rv_newI hx hb (hts _ (rv_w_in gw_aI)) hK hP hD hS hA 8 (fun k => s0 (54 + 4 * k + 2)) (fun j hj => s0_z (by omega)) (by decide) (z := 8) rfl (Nat.le_of_ble_eq_true rfl) (Nat.le_of_ble_eq_true rfl) diX2_39 (fun q5 H hP hD hS => ?_)
  have hP : va_P (dC, dI) vwCl [(h0, .inr (1, [.ref q1, .ref q2, .ref q3, .ref q4, .null, .null, .null, .int 0, .int 0, .int 0, .int 0, .int 0])), (q1, arI dA 10 (fun k => s0 (4 + k))), (q2, arI dA 40 (fun k => s0 (14 + k))), (q3, arI dA 8 (fun k => s0 (54 + 4 * k + 0))), (q4, arI dA 8 (fun k => s0 (54 + 4 * k + 1))), (q5, arI dA 8 (fun k => s0 (54 + 4 * k + 2)))] H := hP
  have hD : va_D A [(h0, .inr (1, [.ref q1, .ref q2, .ref q3, .ref q4, .null, .null, .null, .int 0, .int 0, .int 0, .int 0, .int 0])), (q1, arI dA 10 (fun k => s0 (4 + k))), (q2, arI dA 40 (fun k => s0 (14 + k))), (q3, arI dA 8 (fun k => s0 (54 + 4 * k + 0))), (q4, arI dA 8 (fun k => s0 (54 + 4 * k + 1))), (q5, arI dA 8 (fun k => s0 (54 + 4 * k + 2)))] := hD
  refine W.widen (k := 5) (n := 74) (Nat.le_of_ble_eq_true rfl) (Nat.le_of_ble_eq_true rfl) ?_
  refine bn_put (ci := 1) (own := RX2) (T := TX2) (N := 12) (ty := .array .int) (v := .ref q5) hx hb hown hts hin hK hP hD hS 0 rfl rfl 4 (by decide) 99 (by decide +kernel) rfl (by decide +kernel) rfl rfl (Nat.le_of_ble_eq_true rfl) diX2_41 (fun H locs hP hD hS => ?_)
  have hP : va_P (dC, dI) vwCl [(h0, .inr (1, [.ref q1, .ref q2, .ref q3, .ref q4, .ref q5, .null, .null, .int 0, .int 0, .int 0, .int 0, .int 0])), (q1, arI dA 10 (fun k => s0 (4 + k))), (q2, arI dA 40 (fun k => s0 (14 + k))), (q3, arI dA 8 (fun k => s0 (54 + 4 * k + 0))), (q4, arI dA 8 (fun k => s0 (54 + 4 * k + 1))), (q5, arI dA 8 (fun k => s0 (54 + 4 * k + 2)))] H := hP
  have hD : va_D A [(h0, .inr (1, [.ref q1, .ref q2, .ref q3, .ref q4, .ref q5, .null, .null, .int 0, .int 0, .int 0, .int 0, .int 0])), (q1, arI dA 10 (fun k => s0 (4 + k))), (q2, arI dA 40 (fun k => s0 (14 + k))), (q3, arI dA 8 (fun k => s0 (54 + 4 * k + 0))), (q4, arI dA 8 (fun k => s0 (54 + 4 * k + 1))), (q5, arI dA 8 (fun k => s0 (54 + 4 * k + 2)))] := hD
  refine lv_aload_n hx hb diX2_44 rfl (lv_at hl 0 rfl) ?_
  refine lv_bipush (v := 8) hx hb diX2_45 (by decide) ?_
  refine rv_newI hx hb (hts _ (rv_w_in gw_aI)) hK hP hD hS hA 8 (fun k => s0 (54 + 4 * k + 3)) (fun j hj => s0_z (by omega)) (by decide) (z := 8) rfl (Nat.le_of_ble_eq_true rfl) (Nat.le_of_ble_eq_true rfl) diX2_47 (fun q6 H hP hD hS => ?_)
  have hP : va_P (dC, dI) vwCl [(h0, .inr (1, [.ref q1, .ref q2, .ref q3, .ref q4, .ref q5, .null, .null, .int 0, .int 0, .int 0, .int 0, .int 0])), (q1, arI dA 10 (fun k => s0 (4 + k))), (q2, arI dA 40 (fun k => s0 (14 + k))), (q3, arI dA 8 (fun k => s0 (54 + 4 * k + 0))), (q4, arI dA 8 (fun k => s0 (54 + 4 * k + 1))), (q5, arI dA 8 (fun k => s0 (54 + 4 * k + 2))), (q6, arI dA 8 (fun k => s0 (54 + 4 * k + 3)))] H := hP
  have hD : va_D A [(h0, .inr (1, [.ref q1, .ref q2, .ref q3, .ref q4, .ref q5, .null, .null, .int 0, .int 0, .int 0, .int 0, .int 0])), (q1, arI dA 10 (fun k => s0 (4 + k))), (q2, arI dA 40 (fun k => s0 (14 + k))), (q3, arI dA 8 (fun k => s0 (54 + 4 * k + 0))), (q4, arI dA 8 (fun k => s0 (54 + 4 * k + 1))), (q5, arI dA 8 (fun k => s0 (54 + 4 * k + 2))), (q6, arI dA 8 (fun k => s0 (54 + 4 * k + 3)))] := hD
  refine W.widen (k := 6) (n := 82) (Nat.le_of_ble_eq_true rfl) (Nat.le_of_ble_eq_true rfl) ?_
  refine bn_put (ci := 1) (own := RX2) (T := TX2) (N := 12) (ty := .array .int) (v := .ref q6) hx hb hown hts hin hK hP hD hS 0 rfl rfl 5 (by decide) 101 (by decide +kernel) rfl (by decide +kernel) rfl rfl (Nat.le_of_ble_eq_true rfl) diX2_49 (fun H locs hP hD hS => ?_)
  have hP : va_P (dC, dI) vwCl [(h0, .inr (1, [.ref q1, .ref q2, .ref q3, .ref q4, .ref q5, .ref q6, .null, .int 0, .int 0, .int 0, .int 0, .int 0])), (q1, arI dA 10 (fun k => s0 (4 + k))), (q2, arI dA 40 (fun k => s0 (14 + k))), (q3, arI dA 8 (fun k => s0 (54 + 4 * k + 0))), (q4, arI dA 8 (fun k => s0 (54 + 4 * k + 1))), (q5, arI dA 8 (fun k => s0 (54 + 4 * k + 2))), (q6, arI dA 8 (fun k => s0 (54 + 4 * k + 3)))] H := hP
  have hD : va_D A [(h0, .inr (1, [.ref q1, .ref q2, .ref q3, .ref q4, .ref q5, .ref q6, .null, .int 0, .int 0, .int 0, .int 0, .int 0])), (q1, arI dA 10 (fun k => s0 (4 + k))), (q2, arI dA 40 (fun k => s0 (14 + k))), (q3, arI dA 8 (fun k => s0 (54 + 4 * k + 0))), (q4, arI dA 8 (fun k => s0 (54 + 4 * k + 1))), (q5, arI dA 8 (fun k => s0 (54 + 4 * k + 2))), (q6, arI dA 8 (fun k => s0 (54 + 4 * k + 3)))] := hD
  refine lv_aload_n hx hb diX2_52 rfl (lv_at hl 0 rfl) ?_
  refine lv_bipush (v := 10) hx hb diX2_53 (by decide) ?_
  refine rv_newI hx hb (hts _ (rv_w_in gw_aI)) hK hP hD hS hA 10 (fun k => if k < 0 then (-1 : Int32) else 0) (fun j _ => if_neg (by omega)) (by decide) (z := 10) rfl (Nat.le_of_ble_eq_true rfl) (Nat.le_of_ble_eq_true rfl) diX2_55 (fun q7 H hP hD hS => ?_)
  have hP : va_P (dC, dI) vwCl [(h0, .inr (1, [.ref q1, .ref q2, .ref q3, .ref q4, .ref q5, .ref q6, .null, .int 0, .int 0, .int 0, .int 0, .int 0])), (q1, arI dA 10 (fun k => s0 (4 + k))), (q2, arI dA 40 (fun k => s0 (14 + k))), (q3, arI dA 8 (fun k => s0 (54 + 4 * k + 0))), (q4, arI dA 8 (fun k => s0 (54 + 4 * k + 1))), (q5, arI dA 8 (fun k => s0 (54 + 4 * k + 2))), (q6, arI dA 8 (fun k => s0 (54 + 4 * k + 3))), (q7, arI dA 10 (fun k => if k < 0 then (-1 : Int32) else 0))] H := hP
  have hD : va_D A [(h0, .inr (1, [.ref q1, .ref q2, .ref q3, .ref q4, .ref q5, .ref q6, .null, .int 0, .int 0, .int 0, .int 0, .int 0])), (q1, arI dA 10 (fun k => s0 (4 + k))), (q2, arI dA 40 (fun k => s0 (14 + k))), (q3, arI dA 8 (fun k => s0 (54 + 4 * k + 0))), (q4, arI dA 8 (fun k => s0 (54 + 4 * k + 1))), (q5, arI dA 8 (fun k => s0 (54 + 4 * k + 2))), (q6, arI dA 8 (fun k => s0 (54 + 4 * k + 3))), (q7, arI dA 10 (fun k => if k < 0 then (-1 : Int32) else 0))] := hD
  refine W.widen (k := 7) (n := 92) (Nat.le_of_ble_eq_true rfl) (Nat.le_of_ble_eq_true rfl) ?_
  refine bn_put (ci := 1) (own := RX2) (T := TX2) (N := 12) (ty := .array .int) (v := .ref q7) hx hb hown hts hin hK hP hD hS 0 rfl rfl 6 (by decide) 103 (by decide +kernel) rfl (by decide +kernel) rfl rfl (Nat.le_of_ble_eq_true rfl) diX2_57 (fun H locs hP hD hS => ?_)
  have hP : va_P (dC, dI) vwCl [(h0, .inr (1, [.ref q1, .ref q2, .ref q3, .ref q4, .ref q5, .ref q6, .ref q7, .int 0, .int 0, .int 0, .int 0, .int 0])), (q1, arI dA 10 (fun k => s0 (4 + k))), (q2, arI dA 40 (fun k => s0 (14 + k))), (q3, arI dA 8 (fun k => s0 (54 + 4 * k + 0))), (q4, arI dA 8 (fun k => s0 (54 + 4 * k + 1))), (q5, arI dA 8 (fun k => s0 (54 + 4 * k + 2))), (q6, arI dA 8 (fun k => s0 (54 + 4 * k + 3))), (q7, arI dA 10 (fun k => if k < 0 then (-1 : Int32) else 0))] H := hP
  have hD : va_D A [(h0, .inr (1, [.ref q1, .ref q2, .ref q3, .ref q4, .ref q5, .ref q6, .ref q7, .int 0, .int 0, .int 0, .int 0, .int 0])), (q1, arI dA 10 (fun k => s0 (4 + k))), (q2, arI dA 40 (fun k => s0 (14 + k))), (q3, arI dA 8 (fun k => s0 (54 + 4 * k + 0))), (q4, arI dA 8 (fun k => s0 (54 + 4 * k + 1))), (q5, arI dA 8 (fun k => s0 (54 + 4 * k + 2))), (q6, arI dA 8 (fun k => s0 (54 + 4 * k + 3))), (q7, arI dA 10 (fun k => if k < 0 then (-1 : Int32) else 0))] := hD
  refine lv_aload_n hx hb diX2_60 rfl (lv_at hl 0 rfl) ?_
  refine lv_iconst (v := 0) hx hb diX2_61 (by decide) ?_
  refine bn_put (ci := 1) (own := RX2) (T := TX2) (N := 12) (ty := .int) (v := .int 0) hx hb hown hts hin hK hP hD hS 0 rfl rfl 7 (by decide) 105 (by decide +kernel) rfl (by decide +kernel) rfl rfl (Nat.le_of_ble_eq_true rfl) diX2_62 (fun H locs hP hD hS => ?_)
  have hP : va_P (dC, dI) vwCl [(h0, .inr (1, [.ref q1, .ref q2, .ref q3, .ref q4, .ref q5, .ref q6, .ref q7, .int 0, .int 0, .int 0, .int 0, .int 0])), (q1, arI dA 10 (fun k => s0 (4 + k))), (q2, arI dA 40 (fun k => s0 (14 + k))), (q3, arI dA 8 (fun k => s0 (54 + 4 * k + 0))), (q4, arI dA 8 (fun k => s0 (54 + 4 * k + 1))), (q5, arI dA 8 (fun k => s0 (54 + 4 * k + 2))), (q6, arI dA 8 (fun k => s0 (54 + 4 * k + 3))), (q7, arI dA 10 (fun k => if k < 0 then (-1 : Int32) else 0))] H := hP
  have hD : va_D A [(h0, .inr (1, [.ref q1, .ref q2, .ref q3, .ref q4, .ref q5, .ref q6, .ref q7, .int 0, .int 0, .int 0, .int 0, .int 0])), (q1, arI dA 10 (fun k => s0 (4 + k))), (q2, arI dA 40 (fun k => s0 (14 + k))), (q3, arI dA 8 (fun k => s0 (54 + 4 * k + 0))), (q4, arI dA 8 (fun k => s0 (54 + 4 * k + 1))), (q5, arI dA 8 (fun k => s0 (54 + 4 * k + 2))), (q6, arI dA 8 (fun k => s0 (54 + 4 * k + 3))), (q7, arI dA 10 (fun k => if k < 0 then (-1 : Int32) else 0))] := hD
  refine lv_aload_n hx hb diX2_65 rfl (lv_at hl 0 rfl) ?_
  refine lv_bipush (v := 90) hx hb diX2_66 (by decide) ?_
  refine bn_put (ci := 1) (own := RX2) (T := TX2) (N := 12) (ty := .int) (v := .int 90) hx hb hown hts hin hK hP hD hS 0 rfl rfl 8 (by decide) 107 (by decide +kernel) rfl (by decide +kernel) rfl rfl (Nat.le_of_ble_eq_true rfl) diX2_68 (fun H locs hP hD hS => ?_)
  have hP : va_P (dC, dI) vwCl [(h0, .inr (1, [.ref q1, .ref q2, .ref q3, .ref q4, .ref q5, .ref q6, .ref q7, .int 0, .int 90, .int 0, .int 0, .int 0])), (q1, arI dA 10 (fun k => s0 (4 + k))), (q2, arI dA 40 (fun k => s0 (14 + k))), (q3, arI dA 8 (fun k => s0 (54 + 4 * k + 0))), (q4, arI dA 8 (fun k => s0 (54 + 4 * k + 1))), (q5, arI dA 8 (fun k => s0 (54 + 4 * k + 2))), (q6, arI dA 8 (fun k => s0 (54 + 4 * k + 3))), (q7, arI dA 10 (fun k => if k < 0 then (-1 : Int32) else 0))] H := hP
  have hD : va_D A [(h0, .inr (1, [.ref q1, .ref q2, .ref q3, .ref q4, .ref q5, .ref q6, .ref q7, .int 0, .int 90, .int 0, .int 0, .int 0])), (q1, arI dA 10 (fun k => s0 (4 + k))), (q2, arI dA 40 (fun k => s0 (14 + k))), (q3, arI dA 8 (fun k => s0 (54 + 4 * k + 0))), (q4, arI dA 8 (fun k => s0 (54 + 4 * k + 1))), (q5, arI dA 8 (fun k => s0 (54 + 4 * k + 2))), (q6, arI dA 8 (fun k => s0 (54 + 4 * k + 3))), (q7, arI dA 10 (fun k => if k < 0 then (-1 : Int32) else 0))] := hD
  refine lv_aload_n hx hb diX2_71 rfl (lv_at hl 0 rfl) ?_
  refine lv_iconst (v := 0) hx hb diX2_72 (by decide) ?_
  refine bn_put (ci := 1) (own := RX2) (T := TX2) (N := 12) (ty := .int) (v := .int 0) hx hb hown hts hin hK hP hD hS 0 rfl rfl 9 (by decide) 110 (by decide +kernel) rfl (by decide +kernel) rfl rfl (Nat.le_of_ble_eq_true rfl) diX2_73 (fun H locs hP hD hS => ?_)
  have hP : va_P (dC, dI) vwCl [(h0, .inr (1, [.ref q1, .ref q2, .ref q3, .ref q4, .ref q5, .ref q6, .ref q7, .int 0, .int 90, .int 0, .int 0, .int 0])), (q1, arI dA 10 (fun k => s0 (4 + k))), (q2, arI dA 40 (fun k => s0 (14 + k))), (q3, arI dA 8 (fun k => s0 (54 + 4 * k + 0))), (q4, arI dA 8 (fun k => s0 (54 + 4 * k + 1))), (q5, arI dA 8 (fun k => s0 (54 + 4 * k + 2))), (q6, arI dA 8 (fun k => s0 (54 + 4 * k + 3))), (q7, arI dA 10 (fun k => if k < 0 then (-1 : Int32) else 0))] H := hP
  have hD : va_D A [(h0, .inr (1, [.ref q1, .ref q2, .ref q3, .ref q4, .ref q5, .ref q6, .ref q7, .int 0, .int 90, .int 0, .int 0, .int 0])), (q1, arI dA 10 (fun k => s0 (4 + k))), (q2, arI dA 40 (fun k => s0 (14 + k))), (q3, arI dA 8 (fun k => s0 (54 + 4 * k + 0))), (q4, arI dA 8 (fun k => s0 (54 + 4 * k + 1))), (q5, arI dA 8 (fun k => s0 (54 + 4 * k + 2))), (q6, arI dA 8 (fun k => s0 (54 + 4 * k + 3))), (q7, arI dA 10 (fun k => if k < 0 then (-1 : Int32) else 0))] := hD
  refine lv_aload_n hx hb diX2_76 rfl (lv_at hl 0 rfl) ?_
  refine lv_iconst (v := 1) hx hb diX2_77 (by decide) ?_
  refine bn_put (ci := 1) (own := RX2) (T := TX2) (N := 12) (ty := .int) (v := .int 1) hx hb hown hts hin hK hP hD hS 0 rfl rfl 10 (by decide) 112 (by decide +kernel) rfl (by decide +kernel) rfl rfl (Nat.le_of_ble_eq_true rfl) diX2_78 (fun H locs hP hD hS => ?_)
  have hP : va_P (dC, dI) vwCl [(h0, .inr (1, [.ref q1, .ref q2, .ref q3, .ref q4, .ref q5, .ref q6, .ref q7, .int 0, .int 90, .int 0, .int 1, .int 0])), (q1, arI dA 10 (fun k => s0 (4 + k))), (q2, arI dA 40 (fun k => s0 (14 + k))), (q3, arI dA 8 (fun k => s0 (54 + 4 * k + 0))), (q4, arI dA 8 (fun k => s0 (54 + 4 * k + 1))), (q5, arI dA 8 (fun k => s0 (54 + 4 * k + 2))), (q6, arI dA 8 (fun k => s0 (54 + 4 * k + 3))), (q7, arI dA 10 (fun k => if k < 0 then (-1 : Int32) else 0))] H := hP
  have hD : va_D A [(h0, .inr (1, [.ref q1, .ref q2, .ref q3, .ref q4, .ref q5, .ref q6, .ref q7, .int 0, .int 90, .int 0, .int 1, .int 0])), (q1, arI dA 10 (fun k => s0 (4 + k))), (q2, arI dA 40 (fun k => s0 (14 + k))), (q3, arI dA 8 (fun k => s0 (54 + 4 * k + 0))), (q4, arI dA 8 (fun k => s0 (54 + 4 * k + 1))), (q5, arI dA 8 (fun k => s0 (54 + 4 * k + 2))), (q6, arI dA 8 (fun k => s0 (54 + 4 * k + 3))), (q7, arI dA 10 (fun k => if k < 0 then (-1 : Int32) else 0))] := hD
  refine lv_aload_n hx hb diX2_81 rfl (lv_at hl 0 rfl) ?_
  refine lv_iconst (v := 0) hx hb diX2_82 (by decide) ?_
  refine bn_put (ci := 1) (own := RX2) (T := TX2) (N := 12) (ty := .int) (v := .int 0) hx hb hown hts hin hK hP hD hS 0 rfl rfl 11 (by decide) 114 (by decide +kernel) rfl (by decide +kernel) rfl rfl (Nat.le_of_ble_eq_true rfl) diX2_83 (fun H locs hP hD hS => ?_)
  have hP : va_P (dC, dI) vwCl [(h0, .inr (1, [.ref q1, .ref q2, .ref q3, .ref q4, .ref q5, .ref q6, .ref q7, .int 0, .int 90, .int 0, .int 1, .int 0])), (q1, arI dA 10 (fun k => s0 (4 + k))), (q2, arI dA 40 (fun k => s0 (14 + k))), (q3, arI dA 8 (fun k => s0 (54 + 4 * k + 0))), (q4, arI dA 8 (fun k => s0 (54 + 4 * k + 1))), (q5, arI dA 8 (fun k => s0 (54 + 4 * k + 2))), (q6, arI dA 8 (fun k => s0 (54 + 4 * k + 3))), (q7, arI dA 10 (fun k => if k < 0 then (-1 : Int32) else 0))] H := hP
  have hD : va_D A [(h0, .inr (1, [.ref q1, .ref q2, .ref q3, .ref q4, .ref q5, .ref q6, .ref q7, .int 0, .int 90, .int 0, .int 1, .int 0])), (q1, arI dA 10 (fun k => s0 (4 + k))), (q2, arI dA 40 (fun k => s0 (14 + k))), (q3, arI dA 8 (fun k => s0 (54 + 4 * k + 0))), (q4, arI dA 8 (fun k => s0 (54 + 4 * k + 1))), (q5, arI dA 8 (fun k => s0 (54 + 4 * k + 2))), (q6, arI dA 8 (fun k => s0 (54 + 4 * k + 3))), (q7, arI dA 10 (fun k => if k < 0 then (-1 : Int32) else 0))] := hD
  refine lv_iconst (v := 0) hx hb diX2_86 (by decide) ?_
  refine lv_istore_n (lv' := [(1, .int 0), (0, .ref h0)]) hx hb diX2_87 rfl hl (by decide) rfl (fun ls hl => ?_)
  have loop : ∀ (d i : Nat) (H : Heap) (locs : List Loc) (ls : Array Slot), i + d = 10 → va_P (dC, dI) vwCl [(h0, .inr (1, [.ref q1, .ref q2, .ref q3, .ref q4, .ref q5, .ref q6, .ref q7, .int 0, .int 90, .int 0, .int 1, .int 0])), (q1, arI dA 10 (fun k => s0 (4 + k))), (q2, arI dA 40 (fun k => s0 (14 + k))), (q3, arI dA 8 (fun k => s0 (54 + 4 * k + 0))), (q4, arI dA 8 (fun k => s0 (54 + 4 * k + 1))), (q5, arI dA 8 (fun k => s0 (54 + 4 * k + 2))), (q6, arI dA 8 (fun k => s0 (54 + 4 * k + 3))), (q7, arI dA 10 (fun k => if k < i then (-1 : Int32) else 0))] H → va_D A [(h0, .inr (1, [.ref q1, .ref q2, .ref q3, .ref q4, .ref q5, .ref q6, .ref q7, .int 0, .int 90, .int 0, .int 1, .int 0])), (q1, arI dA 10 (fun k => s0 (4 + k))), (q2, arI dA 40 (fun k => s0 (14 + k))), (q3, arI dA 8 (fun k => s0 (54 + 4 * k + 0))), (q4, arI dA 8 (fun k => s0 (54 + 4 * k + 1))), (q5, arI dA 8 (fun k => s0 (54 + 4 * k + 2))), (q6, arI dA 8 (fun k => s0 (54 + 4 * k + 3))), (q7, arI dA 10 (fun k => if k < i then (-1 : Int32) else 0))] → va_S A s.heap H locs → lv_has ls 2 [(1, .int (nI i)), (0, .ref h0)] → W p l e ({ frames := 1, cells := 7, slots := 92, locals := 12 }) s m [Value.ref h0].toArray below meth c H locs 7 92 (MQ below (va_Qv (fun _ : Unit => True) (fun _ t => ∃ q1 q2 q3 q4 q5 q6 q7, va_P (dC, dI) vwCl [(h0, .inr (1, [.ref q1, .ref q2, .ref q3, .ref q4, .ref q5, .ref q6, .ref q7, .int 0, .int 90, .int 0, .int 1, .int 0])), (q1, arI dA 10 (fun k => s0 (4 + k))), (q2, arI dA 40 (fun k => s0 (14 + k))), (q3, arI dA 8 (fun k => s0 (54 + 4 * k + 0))), (q4, arI dA 8 (fun k => s0 (54 + 4 * k + 1))), (q5, arI dA 8 (fun k => s0 (54 + 4 * k + 2))), (q6, arI dA 8 (fun k => s0 (54 + 4 * k + 3))), (q7, arI dA 10 (fun k => s0 (86 + k)))] t.heap ∧ va_D A [(h0, .inr (1, [.ref q1, .ref q2, .ref q3, .ref q4, .ref q5, .ref q6, .ref q7, .int 0, .int 90, .int 0, .int 1, .int 0])), (q1, arI dA 10 (fun k => s0 (4 + k))), (q2, arI dA 40 (fun k => s0 (14 + k))), (q3, arI dA 8 (fun k => s0 (54 + 4 * k + 0))), (q4, arI dA 8 (fun k => s0 (54 + 4 * k + 1))), (q5, arI dA 8 (fun k => s0 (54 + 4 * k + 2))), (q6, arI dA 8 (fun k => s0 (54 + 4 * k + 3))), (q7, arI dA 10 (fun k => s0 (86 + k)))]) A) [Value.ref h0].toArray s 7 92 A) (F0 m 88 ls []) := by
    intro d
    induction d with
    | zero =>
      intro i H locs ls hi hP hD hS hl
      have hi : i = 10 := by omega
      subst hi
      refine lv_iload_n hx hb diX2_88 rfl (lv_at hl 0 rfl) ?_
      refine lv_bipush (v := 10) hx hb diX2_89 (by decide) ?_
      refine lv_icmp_ge (tgt := 107) hx hb diX2_91 (by decide) (fun _ => ?_) (fun f => absurd (by decide) f)
      rw [arI_congr (f := fun k => if k < 10 then (-1 : Int32) else 0) (g := fun k => s0 (86 + k)) (fun j hj => by rw [if_pos hj, s0_m (by omega)])] at hP hD
      exact W.vret hx hb hr (fun t ht hW => ⟨⟨(), rfl, trivial, q1, q2, q3, q4, q5, q6, q7, by rw [ht]; exact hP, hD⟩, hS.F ht⟩) hS.2.2 diX2_107
    | succ d ih =>
      intro i H locs ls hi hP hD hS hl
      refine lv_iload_n hx hb diX2_88 rfl (lv_at hl 0 rfl) ?_
      refine lv_bipush (v := 10) hx hb diX2_89 (by decide) ?_
      refine lv_icmp_ge (tgt := 107) hx hb diX2_91 (by decide) (fun f => absurd f (nI_ge (a := i) (b := 10) (by omega) (by decide))) (fun _ => ?_)
      refine lv_aload_n hx hb diX2_94 rfl (lv_at hl 1 rfl) ?_
      refine bn_get (ci := 1) (own := RX2) (T := TX2) (N := 12) (v := .ref q7) hx hb hown hts hK hP 0 rfl rfl 6 (by decide) 103 (by decide +kernel) rfl diX2_95 ?_
      refine lv_iload_n hx hb diX2_98 rfl (lv_at hl 0 rfl) ?_
      refine lv_iconst (v := -1) hx hb diX2_99 (by decide) ?_
      refine rv_astI hx hb hK hP hD hS 7 rfl (i := i) rfl (by omega) (by decide) diX2_100 (fun H locs hP hD hS => ?_)
      rw [arI_congr (f := upd (fun k => if k < i then (-1 : Int32) else 0) i (-1)) (g := fun k => if k < i + 1 then (-1 : Int32) else 0) (fun j hj => fill_s i j)] at hP hD
      refine lv_iinc (v := nI (i + 1)) (lv' := [(1, .int (nI (i + 1))), (0, .ref h0)]) hx hb diX2_101 hl (k := 0) rfl (nI_1 i) (by decide) rfl (fun ls hl => ?_)
      refine lv_goto (tgt := 88) hx hb diX2_104 (by decide) ?_
      exact ih (i + 1) H locs ls (by omega) hP hD hS hl
  exact loop 10 0 _ _ _ (by decide) hP hD hS hl
