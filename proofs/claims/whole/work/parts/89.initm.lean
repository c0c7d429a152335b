/-! THE REFERENCE'S CONSTRUCTOR -/
theorem fill_b (j : Nat) (hj : j < 4) : upd (upd (upd (upd (fun _ => (0 : Int32)) 0 (-1)) 1 (-1)) 2 (-1)) 3 (-1) j = -1 := by
  rcases (show j = 0 ∨ j = 1 ∨ j = 2 ∨ j = 3 by omega) with rfl | rfl | rfl | rfl <;> rfl
theorem fill_0 (j : Nat) : upd (upd (fun _ => (0 : Int32)) 2 90) 3 1 j = if j = 2 then (90 : Int32) else if j = 3 then 1 else if 86 ≤ j ∧ j < 86 + 0 then -1 else 0 := by
  show (if j = 3 then (1 : Int32) else if j = 2 then 90 else 0) = _
  by_cases e3 : j = 3
  · rw [if_pos e3, if_neg (by omega), if_pos e3]
  · rw [if_neg e3]
    by_cases e2 : j = 2
    · rw [if_pos e2, if_pos e2]
    · rw [if_neg e2, if_neg e2, if_neg e3, if_neg (by omega)]
theorem fill_m (i j : Nat) : upd (fun k => if k = 2 then (90 : Int32) else if k = 3 then 1 else if 86 ≤ k ∧ k < 86 + i then -1 else 0) (86 + i) (-1) j = if j = 2 then (90 : Int32) else if j = 3 then 1 else if 86 ≤ j ∧ j < 86 + (i + 1) then -1 else 0 := by
  show (if j = 86 + i then (-1 : Int32) else if j = 2 then (90 : Int32) else if j = 3 then 1 else if 86 ≤ j ∧ j < 86 + i then -1 else 0) = _
  by_cases e : j = 86 + i
  · rw [if_pos e, if_neg (by omega), if_neg (by omega), if_pos (by omega)]
  · rw [if_neg e]
    by_cases e2 : j = 2
    · rw [if_pos e2, if_pos e2]
    · rw [if_neg e2, if_neg e2]
      by_cases e3 : j = 3
      · rw [if_pos e3, if_pos e3]
      · rw [if_neg e3, if_neg e3]
        by_cases h : 86 ≤ j ∧ j < 86 + i
        · rw [if_pos h, if_pos (by omega)]
        · rw [if_neg h, if_neg (by omega)]
set_option maxHeartbeats 4000000 in
set_option maxRecDepth 100000 in
theorem c_X5 (l : Launch) (dC : Nat → ClassId) (dI : Nat → Nat → Nat) (dA : Nat → ClassId) (h0 sz : Nat) : Met l yX5_init (.code yX5_init cX5_init 2 none :: rv_T) ({ frames := 1, cells := 9, slots := 680, locals := 12 }) (va_Pc [.ref h0] (fun U => U.heap.size = sz ∧ va_P (dC, dI) vwCl [(h0, .inr (4, [.null, .null, .null, .null, .int 0, .null, .null, .int 0, .null, .null, .null, .int 0, .int 0, .int 0, .int 0, .int 0]))] U.heap ∧ va_K (dC, dI) vwCl (rv_tys dA) U)) (va_Qv (fun _ : Unit => True) (fun _ t => ∃ q1 q2 q3 q4 q5 q6 q7 q8 q9, va_P (dC, dI) vwCl [(h0, .inr (4, [.ref q1, .ref q2, .ref q3, .ref q4, .int 0, .ref q5, .ref q6, .int 0, .ref q7, .ref q8, .ref q9, .int 0, .int 0, .int 0, .int 0, .int 0])), (q1, arI dA 96 (s0)), (q2, arI dA 96 (fun _ => 0)), (q3, arI dA 96 (fun _ => 0)), (q4, arI dA 96 (fun _ => 0)), (q5, arI dA 8 (fun _ => 0)), (q6, arI dA 120 (fun _ => 0)), (q7, arI dA 4 (fun _ => -1)), (q8, arI dA 4 (fun _ => 0)), (q9, arI dA 160 (fun _ => 0))] t.heap ∧ va_D (va_A [(h0, .inr (4, [.null, .null, .null, .null, .int 0, .null, .null, .int 0, .null, .null, .null, .int 0, .int 0, .int 0, .int 0, .int 0]))] sz) [(h0, .inr (4, [.ref q1, .ref q2, .ref q3, .ref q4, .int 0, .ref q5, .ref q6, .int 0, .ref q7, .ref q8, .ref q9, .int 0, .int 0, .int 0, .int 0, .int 0])), (q1, arI dA 96 (s0)), (q2, arI dA 96 (fun _ => 0)), (q3, arI dA 96 (fun _ => 0)), (q4, arI dA 96 (fun _ => 0)), (q5, arI dA 8 (fun _ => 0)), (q6, arI dA 120 (fun _ => 0)), (q7, arI dA 4 (fun _ => -1)), (q8, arI dA 4 (fun _ => 0)), (q9, arI dA 160 (fun _ => 0))]) (va_A [(h0, .inr (4, [.null, .null, .null, .null, .int 0, .null, .null, .int 0, .null, .null, .null, .int 0, .int 0, .int 0, .int 0, .int 0]))] sz)) 9 680 (va_A [(h0, .inr (4, [.null, .null, .null, .null, .int 0, .null, .null, .int 0, .null, .null, .null, .int 0, .int 0, .int 0, .int 0, .int 0]))] sz) := by
  refine Met.ofW (cc := cX5_init) (maxL := 2) (ret := none) (by decide +kernel) rfl ?_
  intro p e s m args below meth c s₁ B hml hv
  obtain ⟨rfl, hsz, hP, hK⟩ := hv
  have hx := B.exec
  have hb := B.bytes
  have hr := B.returns
  have hts0 := atoms_spec (ws := .code yX5_init cX5_init 2 none :: rv_T) B.pre
  have hts : ∀ w ∈ rv_T, w.before _ s = true := fun w hw => hts0 w (List.mem_cons_of_mem _ hw)
  have hown : s.vm.findClass RX5 = some m.cls := findClass_of_methodNamed B.named
  have hlocks := B.notSynchronized
  have hin : meth.name = "<init>" := (name_of_methodNamed B.named B.method).1
  subst hsz
  have hD : va_D (va_A [(h0, .inr (4, [.null, .null, .null, .null, .int 0, .null, .null, .int 0, .null, .null, .null, .int 0, .int 0, .int 0, .int 0, .int 0]))] s.heap.size) [(h0, .inr (4, [.null, .null, .null, .null, .int 0, .null, .null, .int 0, .null, .null, .null, .int 0, .int 0, .int 0, .int 0, .int 0]))] := va_D1 h0 _ _
  generalize hAe : va_A [(h0, .inr (4, [.null, .null, .null, .null, .int 0, .null, .null, .int 0, .null, .null, .null, .int 0, .int 0, .int 0, .int 0, .int 0]))] s.heap.size = A at hD ⊢
  have hA : ∀ q : Nat, s.heap.size ≤ q → A q := fun q h => by rw [← hAe]; exact Or.inr h
  have hS : va_S A s.heap s.heap [] := va_S.rf
  have hP : va_P (dC, dI) vwCl [(h0, .inr (4, [.null, .null, .null, .null, .int 0, .null, .null, .int 0, .null, .null, .null, .int 0, .int 0, .int 0, .int 0, .int 0]))] s.heap := hP
  have hl := lv_entry ([.ref h0]) (n := 2) (Nat.le_of_ble_eq_true rfl)
  rw [lg_entry_eq]
  generalize (lg_sl ([.ref h0]) ++ List.replicate (2 - (lg_sl ([.ref h0])).length) Slot.unset).toArray = ls at hl ⊢
  have hl : lv_has ls 2 [(0, .ref h0)] := hl
  refine lv_aload_n hx hb diX5_0 rfl (lv_at hl 0 rfl) ?_
  refine W.objInit hx hb hown (hts _ (rv_w_in (i := 738) (by decide +kernel))) (hts _ (rv_w_in (i := 83) (by decide +kernel))) (hts _ (rv_w_in (i := 84) (w := .code Lib.objectInit ⟨#[0xb1]⟩ 1 none) (by decide +kernel))) rfl (by rw [hml]; exact hl.1) rfl diX5_1 (Nat.le_of_ble_eq_true rfl) (Nat.le_of_ble_eq_true rfl) ?_
  refine W.eq (g2 := F0 m 4 ls []) rfl ?_
  refine lv_aload_n hx hb diX5_4 rfl (lv_at hl 0 rfl) ?_
  refine lv_bipush (v := 96) hx hb diX5_5 (by decide) ?_
  refine rv_newI hx hb (hts _ (rv_w_in gw_aI)) hK hP hD hS hA 96 (fun _ => 0) (fun _ _ => rfl) (by decide) (z := 96) rfl (Nat.le_of_ble_eq_true rfl) (Nat.le_of_ble_eq_true rfl) diX5_7 (fun q1 H hP hD hS => ?_)
  have hP : va_P (dC, dI) vwCl [(h0, .inr (4, [.null, .null, .null, .null, .int 0, .null, .null, .int 0, .null, .null, .null, .int 0, .int 0, .int 0, .int 0, .int 0])), (q1, arI dA 96 (fun _ => 0))] H := hP
  have hD : va_D A [(h0, .inr (4, [.null, .null, .null, .null, .int 0, .null, .null, .int 0, .null, .null, .null, .int 0, .int 0, .int 0, .int 0, .int 0])), (q1, arI dA 96 (fun _ => 0))] := hD
  refine W.widen (k := 1) (n := 96) (Nat.le_of_ble_eq_true rfl) (Nat.le_of_ble_eq_true rfl) ?_
  refine bn_put (ci := 4) (own := RX5) (T := TX5) (N := 16) (ty := .array .int) (v := .ref q1) hx hb hown hts hin hK hP hD hS 0 rfl rfl 0 (by decide) 739 (by decide +kernel) rfl (by decide +kernel) rfl rfl (Nat.le_of_ble_eq_true rfl) diX5_9 (fun H locs hP hD hS => ?_)
  have hP : va_P (dC, dI) vwCl [(h0, .inr (4, [.ref q1, .null, .null, .null, .int 0, .null, .null, .int 0, .null, .null, .null, .int 0, .int 0, .int 0, .int 0, .int 0])), (q1, arI dA 96 (fun _ => 0))] H := hP
  have hD : va_D A [(h0, .inr (4, [.ref q1, .null, .null, .null, .int 0, .null, .null, .int 0, .null, .null, .null, .int 0, .int 0, .int 0, .int 0, .int 0])), (q1, arI dA 96 (fun _ => 0))] := hD
  refine lv_aload_n hx hb diX5_12 rfl (lv_at hl 0 rfl) ?_
  refine lv_bipush (v := 96) hx hb diX5_13 (by decide) ?_
  refine rv_newI hx hb (hts _ (rv_w_in gw_aI)) hK hP hD hS hA 96 (fun _ => 0) (fun _ _ => rfl) (by decide) (z := 96) rfl (Nat.le_of_ble_eq_true rfl) (Nat.le_of_ble_eq_true rfl) diX5_15 (fun q2 H hP hD hS => ?_)
  have hP : va_P (dC, dI) vwCl [(h0, .inr (4, [.ref q1, .null, .null, .null, .int 0, .null, .null, .int 0, .null, .null, .null, .int 0, .int 0, .int 0, .int 0, .int 0])), (q1, arI dA 96 (fun _ => 0)), (q2, arI dA 96 (fun _ => 0))] H := hP
  have hD : va_D A [(h0, .inr (4, [.ref q1, .null, .null, .null, .int 0, .null, .null, .int 0, .null, .null, .null, .int 0, .int 0, .int 0, .int 0, .int 0])), (q1, arI dA 96 (fun _ => 0)), (q2, arI dA 96 (fun _ => 0))] := hD
  refine W.widen (k := 2) (n := 192) (Nat.le_of_ble_eq_true rfl) (Nat.le_of_ble_eq_true rfl) ?_
  refine bn_put (ci := 4) (own := RX5) (T := TX5) (N := 16) (ty := .array .int) (v := .ref q2) hx hb hown hts hin hK hP hD hS 0 rfl rfl 1 (by decide) 740 (by decide +kernel) rfl (by decide +kernel) rfl rfl (Nat.le_of_ble_eq_true rfl) diX5_17 (fun H locs hP hD hS => ?_)
  have hP : va_P (dC, dI) vwCl [(h0, .inr (4, [.ref q1, .ref q2, .null, .null, .int 0, .null, .null, .int 0, .null, .null, .null, .int 0, .int 0, .int 0, .int 0, .int 0])), (q1, arI dA 96 (fun _ => 0)), (q2, arI dA 96 (fun _ => 0))] H := hP
  have hD : va_D A [(h0, .inr (4, [.ref q1, .ref q2, .null, .null, .int 0, .null, .null, .int 0, .null, .null, .null, .int 0, .int 0, .int 0, .int 0, .int 0])), (q1, arI dA 96 (fun _ => 0)), (q2, arI dA 96 (fun _ => 0))] := hD
  refine lv_aload_n hx hb diX5_20 rfl (lv_at hl 0 rfl) ?_
  refine lv_bipush (v := 96) hx hb diX5_21 (by decide) ?_
  refine rv_newI hx hb (hts _ (rv_w_in gw_aI)) hK hP hD hS hA 96 (fun _ => 0) (fun _ _ => rfl) (by decide) (z := 96) rfl (Nat.le_of_ble_eq_true rfl) (Nat.le_of_ble_eq_true rfl) diX5_23 (fun q3 H hP hD hS => ?_)
  have hP : va_P (dC, dI) vwCl [(h0, .inr (4, [.ref q1, .ref q2, .null, .null, .int 0, .null, .null, .int 0, .null, .null, .null, .int 0, .int 0, .int 0, .int 0, .int 0])), (q1, arI dA 96 (fun _ => 0)), (q2, arI dA 96 (fun _ => 0)), (q3, arI dA 96 (fun _ => 0))] H := hP
  have hD : va_D A [(h0, .inr (4, [.ref q1, .ref q2, .null, .null, .int 0, .null, .null, .int 0, .null, .null, .null, .int 0, .int 0, .int 0, .int 0, .int 0])), (q1, arI dA 96 (fun _ => 0)), (q2, arI dA 96 (fun _ => 0)), (q3, arI dA 96 (fun _ => 0))] := hD
  refine W.widen (k := 3) (n := 288) (Nat.le_of_ble_eq_true rfl) (Nat.le_of_ble_eq_true rfl) ?_
  refine bn_put (ci := 4) (own := RX5) (T := TX5) (N := 16) (ty := .array .int) (v := .ref q3) hx hb hown hts hin hK hP hD hS 0 rfl rfl 2 (by decide) 741 (by decide +kernel) rfl (by decide +kernel) rfl rfl (Nat.le_of_ble_eq_true rfl) diX5_25 (fun H locs hP hD hS => ?_)
  have hP : va_P (dC, dI) vwCl [(h0, .inr (4, [.ref q1, .ref q2, .ref q3, .null, .int 0, .null, .null, .int 0, .null, .null, .null, .int 0, .int 0, .int 0, .int 0, .int 0])), (q1, arI dA 96 (fun _ => 0)), (q2, arI dA 96 (fun _ => 0)), (q3, arI dA 96 (fun _ => 0))] H := hP
  have hD : va_D A [(h0, .inr (4, [.ref q1, .ref q2, .ref q3, .null, .int 0, .null, .null, .int 0, .null, .null, .null, .int 0, .int 0, .int 0, .int 0, .int 0])), (q1, arI dA 96 (fun _ => 0)), (q2, arI dA 96 (fun _ => 0)), (q3, arI dA 96 (fun _ => 0))] := hD
  refine lv_aload_n hx hb diX5_28 rfl (lv_at hl 0 rfl) ?_
  refine lv_bipush (v := 96) hx hb diX5_29 (by decide) ?_
  refine rv_newI hx hb (hts _ (rv_w_in gw_aI)) hK hP hD hS hA 96 (fun _ => 0) (fun _ _ => rfl) (by decide) (z := 96) rfl (Nat.le_of_ble_eq_true rfl) (Nat.le_of_ble_eq_true rfl) diX5_31 (fun q4 H hP hD hS => ?_)
  have hP : va_P (dC, dI) vwCl [(h0, .inr (4, [.ref q1, .ref q2, .ref q3, .null, .int 0, .null, .null, .int 0, .null, .null, .null, .int 0, .int 0, .int 0, .int 0, .int 0])), (q1, arI dA 96 (fun _ => 0)), (q2, arI dA 96 (fun _ => 0)), (q3, arI dA 96 (fun _ => 0)), (q4, arI dA 96 (fun _ => 0))] H := hP
  have hD : va_D A [(h0, .inr (4, [.ref q1, .ref q2, .ref q3, .null, .int 0, .null, .null, .int 0, .null, .null, .null, .int 0, .int 0, .int 0, .int 0, .int 0])), (q1, arI dA 96 (fun _ => 0)), (q2, arI dA 96 (fun _ => 0)), (q3, arI dA 96 (fun _ => 0)), (q4, arI dA 96 (fun _ => 0))] := hD
  refine W.widen (k := 4) (n := 384) (Nat.le_of_ble_eq_true rfl) (Nat.le_of_ble_eq_true rfl) ?_
  refine bn_put (ci := 4) (own := RX5) (T := TX5) (N := 16) (ty := .array .int) (v := .ref q4) hx hb hown hts hin hK hP hD hS 0 rfl rfl 3 (by decide) 742 (by decide +kernel) rfl (by decide +kernel) rfl rfl (Nat.le_of_ble_eq_true rfl) diX5_33 (fun H locs hP hD hS => ?_)
  have hP : va_P (dC, dI) vwCl [(h0, .inr (4, [.ref q1, .ref q2, .ref q3, .ref q4, .int 0, .null, .null, .int 0, .null, .null, .null, .int 0, .int 0, .int 0, .int 0, .int 0])), (q1, arI dA 96 (fun _ => 0)), (q2, arI dA 96 (fun _ => 0)), (q3, arI dA 96 (fun _ => 0)), (q4, arI dA 96 (fun _ => 0))] H := hP
  have hD : va_D A [(h0, .inr (4, [.ref q1, .ref q2, .ref q3, .ref q4, .int 0, .null, .null, .int 0, .null, .null, .null, .int 0, .int 0, .int 0, .int 0, .int 0])), (q1, arI dA 96 (fun _ => 0)), (q2, arI dA 96 (fun _ => 0)), (q3, arI dA 96 (fun _ => 0)), (q4, arI dA 96 (fun _ => 0))] := hD
  refine lv_aload_n hx hb diX5_36 rfl (lv_at hl 0 rfl) ?_
  refine lv_bipush (v := 8) hx hb diX5_37 (by decide) ?_
  refine rv_newI hx hb (hts _ (rv_w_in gw_aI)) hK hP hD hS hA 8 (fun _ => 0) (fun _ _ => rfl) (by decide) (z := 8) rfl (Nat.le_of_ble_eq_true rfl) (Nat.le_of_ble_eq_true rfl) diX5_39 (fun q5 H hP hD hS => ?_)
  have hP : va_P (dC, dI) vwCl [(h0, .inr (4, [.ref q1, .ref q2, .ref q3, .ref q4, .int 0, .null, .null, .int 0, .null, .null, .null, .int 0, .int 0, .int 0, .int 0, .int 0])), (q1, arI dA 96 (fun _ => 0)), (q2, arI dA 96 (fun _ => 0)), (q3, arI dA 96 (fun _ => 0)), (q4, arI dA 96 (fun _ => 0)), (q5, arI dA 8 (fun _ => 0))] H := hP
  have hD : va_D A [(h0, .inr (4, [.ref q1, .ref q2, .ref q3, .ref q4, .int 0, .null, .null, .int 0, .null, .null, .null, .int 0, .int 0, .int 0, .int 0, .int 0])), (q1, arI dA 96 (fun _ => 0)), (q2, arI dA 96 (fun _ => 0)), (q3, arI dA 96 (fun _ => 0)), (q4, arI dA 96 (fun _ => 0)), (q5, arI dA 8 (fun _ => 0))] := hD
  refine W.widen (k := 5) (n := 392) (Nat.le_of_ble_eq_true rfl) (Nat.le_of_ble_eq_true rfl) ?_
  refine bn_put (ci := 4) (own := RX5) (T := TX5) (N := 16) (ty := .array .int) (v := .ref q5) hx hb hown hts hin hK hP hD hS 0 rfl rfl 5 (by decide) 744 (by decide +kernel) rfl (by decide +kernel) rfl rfl (Nat.le_of_ble_eq_true rfl) diX5_41 (fun H locs hP hD hS => ?_)
  have hP : va_P (dC, dI) vwCl [(h0, .inr (4, [.ref q1, .ref q2, .ref q3, .ref q4, .int 0, .ref q5, .null, .int 0, .null, .null, .null, .int 0, .int 0, .int 0, .int 0, .int 0])), (q1, arI dA 96 (fun _ => 0)), (q2, arI dA 96 (fun _ => 0)), (q3, arI dA 96 (fun _ => 0)), (q4, arI dA 96 (fun _ => 0)), (q5, arI dA 8 (fun _ => 0))] H := hP
  have hD : va_D A [(h0, .inr (4, [.ref q1, .ref q2, .ref q3, .ref q4, .int 0, .ref q5, .null, .int 0, .null, .null, .null, .int 0, .int 0, .int 0, .int 0, .int 0])), (q1, arI dA 96 (fun _ => 0)), (q2, arI dA 96 (fun _ => 0)), (q3, arI dA 96 (fun _ => 0)), (q4, arI dA 96 (fun _ => 0)), (q5, arI dA 8 (fun _ => 0))] := hD
  refine lv_aload_n hx hb diX5_44 rfl (lv_at hl 0 rfl) ?_
  refine lv_bipush (v := 120) hx hb diX5_45 (by decide) ?_
  refine rv_newI hx hb (hts _ (rv_w_in gw_aI)) hK hP hD hS hA 120 (fun _ => 0) (fun _ _ => rfl) (by decide) (z := 120) rfl (Nat.le_of_ble_eq_true rfl) (Nat.le_of_ble_eq_true rfl) diX5_47 (fun q6 H hP hD hS => ?_)
  have hP : va_P (dC, dI) vwCl [(h0, .inr (4, [.ref q1, .ref q2, .ref q3, .ref q4, .int 0, .ref q5, .null, .int 0, .null, .null, .null, .int 0, .int 0, .int 0, .int 0, .int 0])), (q1, arI dA 96 (fun _ => 0)), (q2, arI dA 96 (fun _ => 0)), (q3, arI dA 96 (fun _ => 0)), (q4, arI dA 96 (fun _ => 0)), (q5, arI dA 8 (fun _ => 0)), (q6, arI dA 120 (fun _ => 0))] H := hP
  have hD : va_D A [(h0, .inr (4, [.ref q1, .ref q2, .ref q3, .ref q4, .int 0, .ref q5, .null, .int 0, .null, .null, .null, .int 0, .int 0, .int 0, .int 0, .int 0])), (q1, arI dA 96 (fun _ => 0)), (q2, arI dA 96 (fun _ => 0)), (q3, arI dA 96 (fun _ => 0)), (q4, arI dA 96 (fun _ => 0)), (q5, arI dA 8 (fun _ => 0)), (q6, arI dA 120 (fun _ => 0))] := hD
  refine W.widen (k := 6) (n := 512) (Nat.le_of_ble_eq_true rfl) (Nat.le_of_ble_eq_true rfl) ?_
  refine bn_put (ci := 4) (own := RX5) (T := TX5) (N := 16) (ty := .array .int) (v := .ref q6) hx hb hown hts hin hK hP hD hS 0 rfl rfl 6 (by decide) 745 (by decide +kernel) rfl (by decide +kernel) rfl rfl (Nat.le_of_ble_eq_true rfl) diX5_49 (fun H locs hP hD hS => ?_)
  have hP : va_P (dC, dI) vwCl [(h0, .inr (4, [.ref q1, .ref q2, .ref q3, .ref q4, .int 0, .ref q5, .ref q6, .int 0, .null, .null, .null, .int 0, .int 0, .int 0, .int 0, .int 0])), (q1, arI dA 96 (fun _ => 0)), (q2, arI dA 96 (fun _ => 0)), (q3, arI dA 96 (fun _ => 0)), (q4, arI dA 96 (fun _ => 0)), (q5, arI dA 8 (fun _ => 0)), (q6, arI dA 120 (fun _ => 0))] H := hP
  have hD : va_D A [(h0, .inr (4, [.ref q1, .ref q2, .ref q3, .ref q4, .int 0, .ref q5, .ref q6, .int 0, .null, .null, .null, .int 0, .int 0, .int 0, .int 0, .int 0])), (q1, arI dA 96 (fun _ => 0)), (q2, arI dA 96 (fun _ => 0)), (q3, arI dA 96 (fun _ => 0)), (q4, arI dA 96 (fun _ => 0)), (q5, arI dA 8 (fun _ => 0)), (q6, arI dA 120 (fun _ => 0))] := hD
  refine lv_aload_n hx hb diX5_52 rfl (lv_at hl 0 rfl) ?_
  refine lv_iconst (v := 4) hx hb diX5_53 (by decide) ?_
  refine rv_newI hx hb (hts _ (rv_w_in gw_aI)) hK hP hD hS hA 4 (fun _ => 0) (fun _ _ => rfl) (by decide) (z := 4) rfl (Nat.le_of_ble_eq_true rfl) (Nat.le_of_ble_eq_true rfl) diX5_54 (fun q7 H hP hD hS => ?_)
  have hP : va_P (dC, dI) vwCl [(h0, .inr (4, [.ref q1, .ref q2, .ref q3, .ref q4, .int 0, .ref q5, .ref q6, .int 0, .null, .null, .null, .int 0, .int 0, .int 0, .int 0, .int 0])), (q1, arI dA 96 (fun _ => 0)), (q2, arI dA 96 (fun _ => 0)), (q3, arI dA 96 (fun _ => 0)), (q4, arI dA 96 (fun _ => 0)), (q5, arI dA 8 (fun _ => 0)), (q6, arI dA 120 (fun _ => 0)), (q7, arI dA 4 (fun _ => 0))] H := hP
  have hD : va_D A [(h0, .inr (4, [.ref q1, .ref q2, .ref q3, .ref q4, .int 0, .ref q5, .ref q6, .int 0, .null, .null, .null, .int 0, .int 0, .int 0, .int 0, .int 0])), (q1, arI dA 96 (fun _ => 0)), (q2, arI dA 96 (fun _ => 0)), (q3, arI dA 96 (fun _ => 0)), (q4, arI dA 96 (fun _ => 0)), (q5, arI dA 8 (fun _ => 0)), (q6, arI dA 120 (fun _ => 0)), (q7, arI dA 4 (fun _ => 0))] := hD
  refine W.widen (k := 7) (n := 516) (Nat.le_of_ble_eq_true rfl) (Nat.le_of_ble_eq_true rfl) ?_
  refine lv_dup hx hb diX5_56 rfl ?_
  refine lv_iconst (v := 0) hx hb diX5_57 (by decide) ?_
  refine lv_iconst (v := -1) hx hb diX5_58 (by decide) ?_
  refine rv_astI hx hb hK hP hD hS 7 rfl (z := 0) (i := 0) rfl (by decide) (by decide) diX5_59 (fun H locs hP hD hS => ?_)
  have hP : va_P (dC, dI) vwCl [(h0, .inr (4, [.ref q1, .ref q2, .ref q3, .ref q4, .int 0, .ref q5, .ref q6, .int 0, .null, .null, .null, .int 0, .int 0, .int 0, .int 0, .int 0])), (q1, arI dA 96 (fun _ => 0)), (q2, arI dA 96 (fun _ => 0)), (q3, arI dA 96 (fun _ => 0)), (q4, arI dA 96 (fun _ => 0)), (q5, arI dA 8 (fun _ => 0)), (q6, arI dA 120 (fun _ => 0)), (q7, arI dA 4 (upd (fun _ => 0) 0 (-1)))] H := hP
  have hD : va_D A [(h0, .inr (4, [.ref q1, .ref q2, .ref q3, .ref q4, .int 0, .ref q5, .ref q6, .int 0, .null, .null, .null, .int 0, .int 0, .int 0, .int 0, .int 0])), (q1, arI dA 96 (fun _ => 0)), (q2, arI dA 96 (fun _ => 0)), (q3, arI dA 96 (fun _ => 0)), (q4, arI dA 96 (fun _ => 0)), (q5, arI dA 8 (fun _ => 0)), (q6, arI dA 120 (fun _ => 0)), (q7, arI dA 4 (upd (fun _ => 0) 0 (-1)))] := hD
  refine lv_dup hx hb diX5_60 rfl ?_
  refine lv_iconst (v := 1) hx hb diX5_61 (by decide) ?_
  refine lv_iconst (v := -1) hx hb diX5_62 (by decide) ?_
  refine rv_astI hx hb hK hP hD hS 7 rfl (z := 1) (i := 1) rfl (by decide) (by decide) diX5_63 (fun H locs hP hD hS => ?_)
  have hP : va_P (dC, dI) vwCl [(h0, .inr (4, [.ref q1, .ref q2, .ref q3, .ref q4, .int 0, .ref q5, .ref q6, .int 0, .null, .null, .null, .int 0, .int 0, .int 0, .int 0, .int 0])), (q1, arI dA 96 (fun _ => 0)), (q2, arI dA 96 (fun _ => 0)), (q3, arI dA 96 (fun _ => 0)), (q4, arI dA 96 (fun _ => 0)), (q5, arI dA 8 (fun _ => 0)), (q6, arI dA 120 (fun _ => 0)), (q7, arI dA 4 (upd (upd (fun _ => 0) 0 (-1)) 1 (-1)))] H := hP
  have hD : va_D A [(h0, .inr (4, [.ref q1, .ref q2, .ref q3, .ref q4, .int 0, .ref q5, .ref q6, .int 0, .null, .null, .null, .int 0, .int 0, .int 0, .int 0, .int 0])), (q1, arI dA 96 (fun _ => 0)), (q2, arI dA 96 (fun _ => 0)), (q3, arI dA 96 (fun _ => 0)), (q4, arI dA 96 (fun _ => 0)), (q5, arI dA 8 (fun _ => 0)), (q6, arI dA 120 (fun _ => 0)), (q7, arI dA 4 (upd (upd (fun _ => 0) 0 (-1)) 1 (-1)))] := hD
  refine lv_dup hx hb diX5_64 rfl ?_
  refine lv_iconst (v := 2) hx hb diX5_65 (by decide) ?_
  refine lv_iconst (v := -1) hx hb diX5_66 (by decide) ?_
  refine rv_astI hx hb hK hP hD hS 7 rfl (z := 2) (i := 2) rfl (by decide) (by decide) diX5_67 (fun H locs hP hD hS => ?_)
  have hP : va_P (dC, dI) vwCl [(h0, .inr (4, [.ref q1, .ref q2, .ref q3, .ref q4, .int 0, .ref q5, .ref q6, .int 0, .null, .null, .null, .int 0, .int 0, .int 0, .int 0, .int 0])), (q1, arI dA 96 (fun _ => 0)), (q2, arI dA 96 (fun _ => 0)), (q3, arI dA 96 (fun _ => 0)), (q4, arI dA 96 (fun _ => 0)), (q5, arI dA 8 (fun _ => 0)), (q6, arI dA 120 (fun _ => 0)), (q7, arI dA 4 (upd (upd (upd (fun _ => 0) 0 (-1)) 1 (-1)) 2 (-1)))] H := hP
  have hD : va_D A [(h0, .inr (4, [.ref q1, .ref q2, .ref q3, .ref q4, .int 0, .ref q5, .ref q6, .int 0, .null, .null, .null, .int 0, .int 0, .int 0, .int 0, .int 0])), (q1, arI dA 96 (fun _ => 0)), (q2, arI dA 96 (fun _ => 0)), (q3, arI dA 96 (fun _ => 0)), (q4, arI dA 96 (fun _ => 0)), (q5, arI dA 8 (fun _ => 0)), (q6, arI dA 120 (fun _ => 0)), (q7, arI dA 4 (upd (upd (upd (fun _ => 0) 0 (-1)) 1 (-1)) 2 (-1)))] := hD
  refine lv_dup hx hb diX5_68 rfl ?_
  refine lv_iconst (v := 3) hx hb diX5_69 (by decide) ?_
  refine lv_iconst (v := -1) hx hb diX5_70 (by decide) ?_
  refine rv_astI hx hb hK hP hD hS 7 rfl (z := 3) (i := 3) rfl (by decide) (by decide) diX5_71 (fun H locs hP hD hS => ?_)
  have hP : va_P (dC, dI) vwCl [(h0, .inr (4, [.ref q1, .ref q2, .ref q3, .ref q4, .int 0, .ref q5, .ref q6, .int 0, .null, .null, .null, .int 0, .int 0, .int 0, .int 0, .int 0])), (q1, arI dA 96 (fun _ => 0)), (q2, arI dA 96 (fun _ => 0)), (q3, arI dA 96 (fun _ => 0)), (q4, arI dA 96 (fun _ => 0)), (q5, arI dA 8 (fun _ => 0)), (q6, arI dA 120 (fun _ => 0)), (q7, arI dA 4 (upd (upd (upd (upd (fun _ => 0) 0 (-1)) 1 (-1)) 2 (-1)) 3 (-1)))] H := hP
  have hD : va_D A [(h0, .inr (4, [.ref q1, .ref q2, .ref q3, .ref q4, .int 0, .ref q5, .ref q6, .int 0, .null, .null, .null, .int 0, .int 0, .int 0, .int 0, .int 0])), (q1, arI dA 96 (fun _ => 0)), (q2, arI dA 96 (fun _ => 0)), (q3, arI dA 96 (fun _ => 0)), (q4, arI dA 96 (fun _ => 0)), (q5, arI dA 8 (fun _ => 0)), (q6, arI dA 120 (fun _ => 0)), (q7, arI dA 4 (upd (upd (upd (upd (fun _ => 0) 0 (-1)) 1 (-1)) 2 (-1)) 3 (-1)))] := hD
  refine bn_put (ci := 4) (own := RX5) (T := TX5) (N := 16) (ty := .array .int) (v := .ref q7) hx hb hown hts hin hK hP hD hS 0 rfl rfl 8 (by decide) 747 (by decide +kernel) rfl (by decide +kernel) rfl rfl (Nat.le_of_ble_eq_true rfl) diX5_72 (fun H locs hP hD hS => ?_)
  have hP : va_P (dC, dI) vwCl [(h0, .inr (4, [.ref q1, .ref q2, .ref q3, .ref q4, .int 0, .ref q5, .ref q6, .int 0, .ref q7, .null, .null, .int 0, .int 0, .int 0, .int 0, .int 0])), (q1, arI dA 96 (fun _ => 0)), (q2, arI dA 96 (fun _ => 0)), (q3, arI dA 96 (fun _ => 0)), (q4, arI dA 96 (fun _ => 0)), (q5, arI dA 8 (fun _ => 0)), (q6, arI dA 120 (fun _ => 0)), (q7, arI dA 4 (upd (upd (upd (upd (fun _ => 0) 0 (-1)) 1 (-1)) 2 (-1)) 3 (-1)))] H := hP
  have hD : va_D A [(h0, .inr (4, [.ref q1, .ref q2, .ref q3, .ref q4, .int 0, .ref q5, .ref q6, .int 0, .ref q7, .null, .null, .int 0, .int 0, .int 0, .int 0, .int 0])), (q1, arI dA 96 (fun _ => 0)), (q2, arI dA 96 (fun _ => 0)), (q3, arI dA 96 (fun _ => 0)), (q4, arI dA 96 (fun _ => 0)), (q5, arI dA 8 (fun _ => 0)), (q6, arI dA 120 (fun _ => 0)), (q7, arI dA 4 (upd (upd (upd (upd (fun _ => 0) 0 (-1)) 1 (-1)) 2 (-1)) 3 (-1)))] := hD
  refine lv_aload_n hx hb diX5_75 rfl (lv_at hl 0 rfl) ?_
  refine lv_iconst (v := 4) hx hb diX5_76 (by decide) ?_
  refine rv_newI hx hb (hts _ (rv_w_in gw_aI)) hK hP hD hS hA 4 (fun _ => 0) (fun _ _ => rfl) (by decide) (z := 4) rfl (Nat.le_of_ble_eq_true rfl) (Nat.le_of_ble_eq_true rfl) diX5_77 (fun q8 H hP hD hS => ?_)
  have hP : va_P (dC, dI) vwCl [(h0, .inr (4, [.ref q1, .ref q2, .ref q3, .ref q4, .int 0, .ref q5, .ref q6, .int 0, .ref q7, .null, .null, .int 0, .int 0, .int 0, .int 0, .int 0])), (q1, arI dA 96 (fun _ => 0)), (q2, arI dA 96 (fun _ => 0)), (q3, arI dA 96 (fun _ => 0)), (q4, arI dA 96 (fun _ => 0)), (q5, arI dA 8 (fun _ => 0)), (q6, arI dA 120 (fun _ => 0)), (q7, arI dA 4 (upd (upd (upd (upd (fun _ => 0) 0 (-1)) 1 (-1)) 2 (-1)) 3 (-1))), (q8, arI dA 4 (fun _ => 0))] H := hP
  have hD : va_D A [(h0, .inr (4, [.ref q1, .ref q2, .ref q3, .ref q4, .int 0, .ref q5, .ref q6, .int 0, .ref q7, .null, .null, .int 0, .int 0, .int 0, .int 0, .int 0])), (q1, arI dA 96 (fun _ => 0)), (q2, arI dA 96 (fun _ => 0)), (q3, arI dA 96 (fun _ => 0)), (q4, arI dA 96 (fun _ => 0)), (q5, arI dA 8 (fun _ => 0)), (q6, arI dA 120 (fun _ => 0)), (q7, arI dA 4 (upd (upd (upd (upd (fun _ => 0) 0 (-1)) 1 (-1)) 2 (-1)) 3 (-1))), (q8, arI dA 4 (fun _ => 0))] := hD
  refine W.widen (k := 8) (n := 520) (Nat.le_of_ble_eq_true rfl) (Nat.le_of_ble_eq_true rfl) ?_
  refine bn_put (ci := 4) (own := RX5) (T := TX5) (N := 16) (ty := .array .int) (v := .ref q8) hx hb hown hts hin hK hP hD hS 0 rfl rfl 9 (by decide) 748 (by decide +kernel) rfl (by decide +kernel) rfl rfl (Nat.le_of_ble_eq_true rfl) diX5_79 (fun H locs hP hD hS => ?_)
  have hP : va_P (dC, dI) vwCl [(h0, .inr (4, [.ref q1, .ref q2, .ref q3, .ref q4, .int 0, .ref q5, .ref q6, .int 0, .ref q7, .ref q8, .null, .int 0, .int 0, .int 0, .int 0, .int 0])), (q1, arI dA 96 (fun _ => 0)), (q2, arI dA 96 (fun _ => 0)), (q3, arI dA 96 (fun _ => 0)), (q4, arI dA 96 (fun _ => 0)), (q5, arI dA 8 (fun _ => 0)), (q6, arI dA 120 (fun _ => 0)), (q7, arI dA 4 (upd (upd (upd (upd (fun _ => 0) 0 (-1)) 1 (-1)) 2 (-1)) 3 (-1))), (q8, arI dA 4 (fun _ => 0))] H := hP
  have hD : va_D A [(h0, .inr (4, [.ref q1, .ref q2, .ref q3, .ref q4, .int 0, .ref q5, .ref q6, .int 0, .ref q7, .ref q8, .null, .int 0, .int 0, .int 0, .int 0, .int 0])), (q1, arI dA 96 (fun _ => 0)), (q2, arI dA 96 (fun _ => 0)), (q3, arI dA 96 (fun _ => 0)), (q4, arI dA 96 (fun _ => 0)), (q5, arI dA 8 (fun _ => 0)), (q6, arI dA 120 (fun _ => 0)), (q7, arI dA 4 (upd (upd (upd (upd (fun _ => 0) 0 (-1)) 1 (-1)) 2 (-1)) 3 (-1))), (q8, arI dA 4 (fun _ => 0))] := hD
  refine lv_aload_n hx hb diX5_82 rfl (lv_at hl 0 rfl) ?_
  refine lv_sipush (v := 160) hx hb diX5_83 (by decide) ?_
  refine rv_newI hx hb (hts _ (rv_w_in gw_aI)) hK hP hD hS hA 160 (fun _ => 0) (fun _ _ => rfl) (by decide) (z := 160) rfl (Nat.le_of_ble_eq_true rfl) (Nat.le_of_ble_eq_true rfl) diX5_86 (fun q9 H hP hD hS => ?_)
  have hP : va_P (dC, dI) vwCl [(h0, .inr (4, [.ref q1, .ref q2, .ref q3, .ref q4, .int 0, .ref q5, .ref q6, .int 0, .ref q7, .ref q8, .null, .int 0, .int 0, .int 0, .int 0, .int 0])), (q1, arI dA 96 (fun _ => 0)), (q2, arI dA 96 (fun _ => 0)), (q3, arI dA 96 (fun _ => 0)), (q4, arI dA 96 (fun _ => 0)), (q5, arI dA 8 (fun _ => 0)), (q6, arI dA 120 (fun _ => 0)), (q7, arI dA 4 (upd (upd (upd (upd (fun _ => 0) 0 (-1)) 1 (-1)) 2 (-1)) 3 (-1))), (q8, arI dA 4 (fun _ => 0)), (q9, arI dA 160 (fun _ => 0))] H := hP
  have hD : va_D A [(h0, .inr (4, [.ref q1, .ref q2, .ref q3, .ref q4, .int 0, .ref q5, .ref q6, .int 0, .ref q7, .ref q8, .null, .int 0, .int 0, .int 0, .int 0, .int 0])), (q1, arI dA 96 (fun _ => 0)), (q2, arI dA 96 (fun _ => 0)), (q3, arI dA 96 (fun _ => 0)), (q4, arI dA 96 (fun _ => 0)), (q5, arI dA 8 (fun _ => 0)), (q6, arI dA 120 (fun _ => 0)), (q7, arI dA 4 (upd (upd (upd (upd (fun _ => 0) 0 (-1)) 1 (-1)) 2 (-1)) 3 (-1))), (q8, arI dA 4 (fun _ => 0)), (q9, arI dA 160 (fun _ => 0))] := hD
  refine W.widen (k := 9) (n := 680) (Nat.le_of_ble_eq_true rfl) (Nat.le_of_ble_eq_true rfl) ?_
  refine bn_put (ci := 4) (own := RX5) (T := TX5) (N := 16) (ty := .array .int) (v := .ref q9) hx hb hown hts hin hK hP hD hS 0 rfl rfl 10 (by decide) 749 (by decide +kernel) rfl (by decide +kernel) rfl rfl (Nat.le_of_ble_eq_true rfl) diX5_88 (fun H locs hP hD hS => ?_)
  have hP : va_P (dC, dI) vwCl [(h0, .inr (4, [.ref q1, .ref q2, .ref q3, .ref q4, .int 0, .ref q5, .ref q6, .int 0, .ref q7, .ref q8, .ref q9, .int 0, .int 0, .int 0, .int 0, .int 0])), (q1, arI dA 96 (fun _ => 0)), (q2, arI dA 96 (fun _ => 0)), (q3, arI dA 96 (fun _ => 0)), (q4, arI dA 96 (fun _ => 0)), (q5, arI dA 8 (fun _ => 0)), (q6, arI dA 120 (fun _ => 0)), (q7, arI dA 4 (upd (upd (upd (upd (fun _ => 0) 0 (-1)) 1 (-1)) 2 (-1)) 3 (-1))), (q8, arI dA 4 (fun _ => 0)), (q9, arI dA 160 (fun _ => 0))] H := hP
  have hD : va_D A [(h0, .inr (4, [.ref q1, .ref q2, .ref q3, .ref q4, .int 0, .ref q5, .ref q6, .int 0, .ref q7, .ref q8, .ref q9, .int 0, .int 0, .int 0, .int 0, .int 0])), (q1, arI dA 96 (fun _ => 0)), (q2, arI dA 96 (fun _ => 0)), (q3, arI dA 96 (fun _ => 0)), (q4, arI dA 96 (fun _ => 0)), (q5, arI dA 8 (fun _ => 0)), (q6, arI dA 120 (fun _ => 0)), (q7, arI dA 4 (upd (upd (upd (upd (fun _ => 0) 0 (-1)) 1 (-1)) 2 (-1)) 3 (-1))), (q8, arI dA 4 (fun _ => 0)), (q9, arI dA 160 (fun _ => 0))] := hD
  refine lv_aload_n hx hb diX5_91 rfl (lv_at hl 0 rfl) ?_
  refine bn_get (ci := 4) (own := RX5) (T := TX5) (N := 16) (v := .ref q1) hx hb hown hts hK hP 0 rfl rfl 0 (by decide) 739 (by decide +kernel) rfl diX5_92 ?_
  refine lv_iconst (v := 2) hx hb diX5_95 (by decide) ?_
  refine lv_bipush (v := 90) hx hb diX5_96 (by decide) ?_
  refine rv_astI hx hb hK hP hD hS 1 rfl (z := 2) (i := 2) rfl (by decide) (by decide) diX5_98 (fun H locs hP hD hS => ?_)
  have hP : va_P (dC, dI) vwCl [(h0, .inr (4, [.ref q1, .ref q2, .ref q3, .ref q4, .int 0, .ref q5, .ref q6, .int 0, .ref q7, .ref q8, .ref q9, .int 0, .int 0, .int 0, .int 0, .int 0])), (q1, arI dA 96 (upd (fun _ => 0) 2 (90))), (q2, arI dA 96 (fun _ => 0)), (q3, arI dA 96 (fun _ => 0)), (q4, arI dA 96 (fun _ => 0)), (q5, arI dA 8 (fun _ => 0)), (q6, arI dA 120 (fun _ => 0)), (q7, arI dA 4 (upd (upd (upd (upd (fun _ => 0) 0 (-1)) 1 (-1)) 2 (-1)) 3 (-1))), (q8, arI dA 4 (fun _ => 0)), (q9, arI dA 160 (fun _ => 0))] H := hP
  have hD : va_D A [(h0, .inr (4, [.ref q1, .ref q2, .ref q3, .ref q4, .int 0, .ref q5, .ref q6, .int 0, .ref q7, .ref q8, .ref q9, .int 0, .int 0, .int 0, .int 0, .int 0])), (q1, arI dA 96 (upd (fun _ => 0) 2 (90))), (q2, arI dA 96 (fun _ => 0)), (q3, arI dA 96 (fun _ => 0)), (q4, arI dA 96 (fun _ => 0)), (q5, arI dA 8 (fun _ => 0)), (q6, arI dA 120 (fun _ => 0)), (q7, arI dA 4 (upd (upd (upd (upd (fun _ => 0) 0 (-1)) 1 (-1)) 2 (-1)) 3 (-1))), (q8, arI dA 4 (fun _ => 0)), (q9, arI dA 160 (fun _ => 0))] := hD
  refine lv_aload_n hx hb diX5_99 rfl (lv_at hl 0 rfl) ?_
  refine bn_get (ci := 4) (own := RX5) (T := TX5) (N := 16) (v := .ref q1) hx hb hown hts hK hP 0 rfl rfl 0 (by decide) 739 (by decide +kernel) rfl diX5_100 ?_
  refine lv_iconst (v := 3) hx hb diX5_103 (by decide) ?_
  refine lv_iconst (v := 1) hx hb diX5_104 (by decide) ?_
  refine rv_astI hx hb hK hP hD hS 1 rfl (z := 3) (i := 3) rfl (by decide) (by decide) diX5_105 (fun H locs hP hD hS => ?_)
  have hP : va_P (dC, dI) vwCl [(h0, .inr (4, [.ref q1, .ref q2, .ref q3, .ref q4, .int 0, .ref q5, .ref q6, .int 0, .ref q7, .ref q8, .ref q9, .int 0, .int 0, .int 0, .int 0, .int 0])), (q1, arI dA 96 (upd (upd (fun _ => 0) 2 (90)) 3 (1))), (q2, arI dA 96 (fun _ => 0)), (q3, arI dA 96 (fun _ => 0)), (q4, arI dA 96 (fun _ => 0)), (q5, arI dA 8 (fun _ => 0)), (q6, arI dA 120 (fun _ => 0)), (q7, arI dA 4 (upd (upd (upd (upd (fun _ => 0) 0 (-1)) 1 (-1)) 2 (-1)) 3 (-1))), (q8, arI dA 4 (fun _ => 0)), (q9, arI dA 160 (fun _ => 0))] H := hP
  have hD : va_D A [(h0, .inr (4, [.ref q1, .ref q2, .ref q3, .ref q4, .int 0, .ref q5, .ref q6, .int 0, .ref q7, .ref q8, .ref q9, .int 0, .int 0, .int 0, .int 0, .int 0])), (q1, arI dA 96 (upd (upd (fun _ => 0) 2 (90)) 3 (1))), (q2, arI dA 96 (fun _ => 0)), (q3, arI dA 96 (fun _ => 0)), (q4, arI dA 96 (fun _ => 0)), (q5, arI dA 8 (fun _ => 0)), (q6, arI dA 120 (fun _ => 0)), (q7, arI dA 4 (upd (upd (upd (upd (fun _ => 0) 0 (-1)) 1 (-1)) 2 (-1)) 3 (-1))), (q8, arI dA 4 (fun _ => 0)), (q9, arI dA 160 (fun _ => 0))] := hD
  refine lv_iconst (v := 0) hx hb diX5_106 (by decide) ?_
  refine lv_istore_n (lv' := [(1, .int 0), (0, .ref h0)]) hx hb diX5_107 rfl hl (by decide) rfl (fun ls hl => ?_)
  rw [arI_congr (f := upd (upd (upd (upd (fun _ => 0) 0 (-1)) 1 (-1)) 2 (-1)) 3 (-1)) (g := fun _ => -1) (fun j hj => fill_b j hj)] at hP hD
  rw [arI_congr (f := upd (upd (fun _ => 0) 2 (90)) 3 (1)) (g := fun k => if k = 2 then (90 : Int32) else if k = 3 then 1 else if 86 ≤ k ∧ k < 86 + 0 then -1 else 0) (fun j hj => fill_0 j)] at hP hD
  have loop : ∀ (d i : Nat) (H : Heap) (locs : List Loc) (ls : Array Slot), i + d = 10 → va_P (dC, dI) vwCl [(h0, .inr (4, [.ref q1, .ref q2, .ref q3, .ref q4, .int 0, .ref q5, .ref q6, .int 0, .ref q7, .ref q8, .ref q9, .int 0, .int 0, .int 0, .int 0, .int 0])), (q1, arI dA 96 (fun k => if k = 2 then (90 : Int32) else if k = 3 then 1 else if 86 ≤ k ∧ k < 86 + i then -1 else 0)), (q2, arI dA 96 (fun _ => 0)), (q3, arI dA 96 (fun _ => 0)), (q4, arI dA 96 (fun _ => 0)), (q5, arI dA 8 (fun _ => 0)), (q6, arI dA 120 (fun _ => 0)), (q7, arI dA 4 (fun _ => -1)), (q8, arI dA 4 (fun _ => 0)), (q9, arI dA 160 (fun _ => 0))] H → va_D A [(h0, .inr (4, [.ref q1, .ref q2, .ref q3, .ref q4, .int 0, .ref q5, .ref q6, .int 0, .ref q7, .ref q8, .ref q9, .int 0, .int 0, .int 0, .int 0, .int 0])), (q1, arI dA 96 (fun k => if k = 2 then (90 : Int32) else if k = 3 then 1 else if 86 ≤ k ∧ k < 86 + i then -1 else 0)), (q2, arI dA 96 (fun _ => 0)), (q3, arI dA 96 (fun _ => 0)), (q4, arI dA 96 (fun _ => 0)), (q5, arI dA 8 (fun _ => 0)), (q6, arI dA 120 (fun _ => 0)), (q7, arI dA 4 (fun _ => -1)), (q8, arI dA 4 (fun _ => 0)), (q9, arI dA 160 (fun _ => 0))] → va_S A s.heap H locs → lv_has ls 2 [(1, .int (nI i)), (0, .ref h0)] → W p l e ({ frames := 1, cells := 9, slots := 680, locals := 12 }) s m [Value.ref h0].toArray below meth c H locs 9 680 (MQ below (va_Qv (fun _ : Unit => True) (fun _ t => ∃ q1 q2 q3 q4 q5 q6 q7 q8 q9, va_P (dC, dI) vwCl [(h0, .inr (4, [.ref q1, .ref q2, .ref q3, .ref q4, .int 0, .ref q5, .ref q6, .int 0, .ref q7, .ref q8, .ref q9, .int 0, .int 0, .int 0, .int 0, .int 0])), (q1, arI dA 96 (s0)), (q2, arI dA 96 (fun _ => 0)), (q3, arI dA 96 (fun _ => 0)), (q4, arI dA 96 (fun _ => 0)), (q5, arI dA 8 (fun _ => 0)), (q6, arI dA 120 (fun _ => 0)), (q7, arI dA 4 (fun _ => -1)), (q8, arI dA 4 (fun _ => 0)), (q9, arI dA 160 (fun _ => 0))] t.heap ∧ va_D A [(h0, .inr (4, [.ref q1, .ref q2, .ref q3, .ref q4, .int 0, .ref q5, .ref q6, .int 0, .ref q7, .ref q8, .ref q9, .int 0, .int 0, .int 0, .int 0, .int 0])), (q1, arI dA 96 (s0)), (q2, arI dA 96 (fun _ => 0)), (q3, arI dA 96 (fun _ => 0)), (q4, arI dA 96 (fun _ => 0)), (q5, arI dA 8 (fun _ => 0)), (q6, arI dA 120 (fun _ => 0)), (q7, arI dA 4 (fun _ => -1)), (q8, arI dA 4 (fun _ => 0)), (q9, arI dA 160 (fun _ => 0))]) A) [Value.ref h0].toArray s 9 680 A) (F0 m 108 ls []) := by
    intro d
    induction d with
    | zero =>
      intro i H locs ls hi hP hD hS hl
      have hi : i = 10 := by omega
      subst hi
      refine lv_iload_n hx hb diX5_108 rfl (lv_at hl 0 rfl) ?_
      refine lv_bipush (v := 10) hx hb diX5_109 (by decide) ?_
      refine lv_icmp_ge (tgt := 130) hx hb diX5_111 (by decide) (fun _ => ?_) (fun f => absurd (by decide) f)
      rw [arI_congr (f := fun k => if k = 2 then (90 : Int32) else if k = 3 then 1 else if 86 ≤ k ∧ k < 86 + 10 then -1 else 0) (g := s0) (fun j hj => rfl)] at hP hD
      exact W.vret hx hb hr (fun t ht hW => ⟨⟨(), rfl, trivial, q1, q2, q3, q4, q5, q6, q7, q8, q9, by rw [ht]; exact hP, hD⟩, hS.F ht⟩) hS.2.2 diX5_130
    | succ d ih =>
      intro i H locs ls hi hP hD hS hl
      refine lv_iload_n hx hb diX5_108 rfl (lv_at hl 0 rfl) ?_
      refine lv_bipush (v := 10) hx hb diX5_109 (by decide) ?_
      refine lv_icmp_ge (tgt := 130) hx hb diX5_111 (by decide) (fun f => absurd f (nI_ge (a := i) (b := 10) (by omega) (by decide))) (fun _ => ?_)
      refine lv_aload_n hx hb diX5_114 rfl (lv_at hl 1 rfl) ?_
      refine bn_get (ci := 4) (own := RX5) (T := TX5) (N := 16) (v := .ref q1) hx hb hown hts hK hP 0 rfl rfl 0 (by decide) 739 (by decide +kernel) rfl diX5_115 ?_
      refine lv_bipush (v := 86) hx hb diX5_118 (by decide) ?_
      refine lv_iload_n hx hb diX5_120 rfl (lv_at hl 0 rfl) ?_
      refine lv_iadd hx hb diX5_121 ?_
      refine lv_iconst (v := -1) hx hb diX5_122 (by decide) ?_
      refine rv_astI hx hb hK hP hD hS 1 rfl (i := 86 + i) (nI_add 86 i) (by omega) (by decide) diX5_123 (fun H locs hP hD hS => ?_)
      rw [arI_congr (f := upd (fun k => if k = 2 then (90 : Int32) else if k = 3 then 1 else if 86 ≤ k ∧ k < 86 + i then -1 else 0) (86 + i) (-1)) (g := fun k => if k = 2 then (90 : Int32) else if k = 3 then 1 else if 86 ≤ k ∧ k < 86 + (i + 1) then -1 else 0) (fun j hj => fill_m i j)] at hP hD
      refine lv_iinc (v := nI (i + 1)) (lv' := [(1, .int (nI (i + 1))), (0, .ref h0)]) hx hb diX5_124 hl (k := 0) rfl (nI_1 i) (by decide) rfl (fun ls hl => ?_)
      refine lv_goto (tgt := 108) hx hb diX5_127 (by decide) ?_
      exact ih (i + 1) H locs ls (by omega) hP hD hS hl
  exact loop 10 0 _ _ _ (by decide) hP hD hS hl
