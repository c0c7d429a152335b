/-! THE START: both objects are made, and related -/
def A00 : Nat → Nat → Int32 := fun p _ => if p = 7 then -1 else 0
theorem wm_eq (dA : Nat → ClassId) (fv : Value) (aS : Nat → Nat) (m0 q1 q2 q3 q4 q5 q6 q7 q8 q9 : Nat) : rv_cw (adL [m0, q1, q2, q3, q4, q5, q6, q7, q8, q9] aS) fv dA (mR A00 s0 (fun _ => 0)) = [(m0, .inr (4, [.ref q1, .ref q2, .ref q3, .ref q4, .int 0, .ref q5, .ref q6, .int 0, .ref q7, .ref q8, .ref q9, .int 0, .int 0, .int 0, .int 0, .int 0])), (q1, arI dA 96 (s0)), (q2, arI dA 96 (fun _ => 0)), (q3, arI dA 96 (fun _ => 0)), (q4, arI dA 96 (fun _ => 0)), (q5, arI dA 8 (fun _ => 0)), (q6, arI dA 120 (fun _ => 0)), (q7, arI dA 4 (fun _ => -1)), (q8, arI dA 4 (fun _ => 0)), (q9, arI dA 160 (fun _ => 0))] := by
  rw [rv_cx_eq]
  rfl
theorem inv_0 : Inv 0 s0 := ⟨⟨0, by decide, rfl, fun b hb => absurd hb (by omega), fun k hk => Or.inl (s0_m (by omega))⟩, ⟨0, Nat.le_refl 0, rfl⟩, ⟨by decide, fun t ht => by rw [s0_z (by omega)]; decide⟩, rfl⟩
theorem rel_0 : Rel 0 A00 (fun _ => 0) (fun _ => s0) (fun _ _ => 0) s0 := by
  refine ⟨inv_0, Or.inl ⟨rfl, rfl⟩, ⟨0, by decide, rfl, rfl, fun k hk => absurd hk (by omega)⟩, fun i hi => Or.inl ⟨rfl, rfl⟩, ⟨fun k hk => rfl, by decide⟩⟩
theorem adL_S (L : List Nat) (aS : Nat → Nat) {i : Nat} (h : 1000 ≤ i) : adL L aS i = aS i := if_neg (by omega)
theorem rv_cw_apart {ad : Nat → Nat} {fv : Value} {dA : Nat → ClassId} {w : rv_W} {A : Nat → Prop} (hD : va_D A (rv_cw ad fv dA w)) : (∀ i j, i < w.length → j < w.length → ad i = ad j → i = j) ∧ ∀ i, i < w.length → A (ad i) := by
  have key : ∀ i, i < w.length → ∃ x, (rv_cw ad fv dA w)[i]? = some (ad i, x) := fun i hi => ⟨_, rv_cw_at (List.getElem?_eq_getElem hi)⟩
  refine ⟨fun i j hi hj e => ?_, fun i hi => ?_⟩
  · obtain ⟨x, h1⟩ := key i hi
    obtain ⟨y, h2⟩ := key j hj
    exact hD.1 i j _ _ h1 h2 e
  · obtain ⟨x, h1⟩ := key i hi
    exact hD.2 i _ h1
theorem lt_34 : lw_tbl[146]? = some (.methodLinkNest RX4 34 yX3_init RX4) := by decide +kernel
theorem lt_51 : lw_tbl[171]? = some (.methodLinkNest RX4 51 yX1_init RX4) := by decide +kernel
set_option maxHeartbeats 4000000 in
set_option maxRecDepth 100000 in
theorem whole_start {p : Program} {e : Env} {s : State} {m : MethodId} {below : List Frame} {meth : Method} {c : Code} (l : Launch) (hflags : l.flags = flags0) {b L : Nat} {xs : Nat → Int32} (hL : L ≤ 3072) (C0 : lw_At p s m meth c b L xs) : W p l e room_1 s m #[Value.ref b] below meth c s.heap [] 0 0 (lw_Z below #[Value.ref b] s) (entryFrame m ([Value.ref b] : List Value).toArray 4) := by
  have C1 := C0
  obtain ⟨dC, dI, dA, fv, aS, hfv, hK, hE⟩ := lw_env C0
  have hts := lw_ts C0
  obtain ⟨hx, hb, hr, hml, hown, htb, hX, hbl, hlocks, hgv⟩ := C0
  have hAO : va_AO RX1 s := va_AO.of (htb _ (lt_in _ lt_aQ))
  have hN34 : va_Nw (.methodLinkNest RX4 34 yX3_init RX4) s := va_Nw.of rfl (htb _ (lt_in _ lt_34))
  have hN51 : va_Nw (.methodLinkNest RX4 51 yX1_init RX4) s := va_Nw.of rfl (htb _ (lt_in _ lt_51))
  have hA : ∀ q : Nat, s.heap.size ≤ q → (fun q : Nat => s.heap.size ≤ q) q := fun _ h => h
  have hS : va_S (fun q : Nat => s.heap.size ≤ q) s.heap s.heap [] := va_S.rf
  have hP : va_P (dC, dI) vwCl [] s.heap := fun k q h => by simp at h
  have hD : va_D (fun q : Nat => s.heap.size ≤ q) [] := ⟨fun i j p q h => by simp at h, fun k q h => by simp at h⟩
  have hl := lv_entry ([.ref b]) (n := 4) (Nat.le_of_ble_eq_true rfl)
  rw [lg_entry_eq]
  generalize (lg_sl ([.ref b]) ++ List.replicate (4 - (lg_sl ([.ref b])).length) Slot.unset).toArray = ls at hl ⊢
  have hl : lv_has ls 4 [(0, .ref b)] := hl
  refine va_new (ci := 3) (fs := [.null, .null, .null, .null, .null, .null, .null, .int 0, .int 0]) (C := RX4) (T := TX4) (N := 9) hx hb hts (rv_cl_in 3 _ rfl) tyX4 tyX4_ok hown (hts _ (rv_w_in (i := 77) (by decide +kernel))) (hts _ (rv_w_in (i := 78) (by decide +kernel))) (hts _ (rv_w_in (i := 64) (by decide +kernel))) hK hP hD hS hA rfl (by decide) (Nat.le_of_ble_eq_true rfl) (Nat.le_of_ble_eq_true rfl) dL_0 (fun x0 H hP hD hS => ?_)
  have hP : va_P (dC, dI) vwCl [(x0, .inr (3, [.null, .null, .null, .null, .null, .null, .null, .int 0, .int 0]))] H := hP
  have hD : va_D (fun q : Nat => s.heap.size ≤ q) [(x0, .inr (3, [.null, .null, .null, .null, .null, .null, .null, .int 0, .int 0]))] := hD
  refine W.widen (k := 1) (n := 9) (Nat.le_of_ble_eq_true rfl) (Nat.le_of_ble_eq_true rfl) ?_
  refine lv_dup hx hb dL_3 rfl ?_
  have hFc := va_free (wc := [(x0, .inr (3, [.null, .null, .null, .null, .null, .null, .null, .int 0, .int 0]))]) hD hS hA [0] rfl
  refine va_callv (va_runI (As := []) (rest := [.ref x0]) ⟨hx, hb, hml, hown, hts⟩ (c_X4 l dC dI dA x0 H.size aS fv) (cwI 0 hts (rv_initG (by decide +kernel : rv_w 81 (.code yX4_init cX4_init 2 none) = true)) rfl rfl rfl (hts _ (rv_w_in (i := 64) (by decide +kernel))) (hts _ (rv_w_in (i := 79) (by decide +kernel))) (hts _ (rv_w_in (i := 80) (by decide +kernel))) rfl (by decide +kernel) ⟨Nat.le_of_ble_eq_true rfl, Nat.le_of_ble_eq_true rfl⟩) ⟨fun a U g mk q => by obtain ⟨z0, z1, z2, z3, z4, z5, z6⟩ := q; exact ⟨z0, z1, z2, va_K.moved (u := U) (U := U.calling g mk a) (Vm.Alike.refl U.vm) z3, va_AO.moved (u := U) (U := U.calling g mk a) (Vm.Alike.refl U.vm) z4, va_Nw.same (u := U) (U := U.calling g mk a) rfl rfl z5, va_Nw.same (u := U) (U := U.calling g mk a) rfl rfl z6⟩, fun U hU hW => ⟨rfl, by rw [hU], by rw [hU]; exact hP, va_K.moved hW.alike hK, va_AO.moved hW.alike hAO, va_Nw.warmM hW hN34, va_Nw.warmM hW hN51⟩⟩ rfl rfl hl.1 rfl (lv_room (Nat.le_of_ble_eq_true rfl)) dL_4 ⟨Nat.le_of_ble_eq_true rfl, Nat.le_of_ble_eq_true rfl⟩) hS (fun q _ h => hFc q h) hFc (fun u t H1 locs ht hvm h5 hB hz1 hk1 hS => ?_)
  obtain ⟨Lx, eX0, hP1, hD1⟩ := hB
  rw [ht] at hP1
  have hD1 : va_D (fun q : Nat => s.heap.size ≤ q) (rv_cw (adL Lx aS) fv dA (cR (fun _ => s0) 0 s0 (fun _ _ => 0) 36)) := hD1.weaken (fun _ q _ h => hFc q.1 h)
  have hlX : (rv_cw (adL Lx aS) fv dA (cR (fun _ => s0) 0 s0 (fun _ _ => 0) 36)).length = 38 := by
    unfold rv_cw
    rw [List.length_mapIdx]
    rfl
  refine W.widen (k := 38) (n := 630) (Nat.le_of_ble_eq_true rfl) (Nat.le_of_ble_eq_true rfl) ?_
  refine lv_astore_n (lv' := [(1, .ref x0), (0, .ref b)]) hx hb dL_7 rfl hl (by decide) rfl (fun ls hl => ?_)
  obtain ⟨jX, gX⟩ := rv_cw_apart hD1
  generalize hwX : rv_cw (adL Lx aS) fv dA (cR (fun _ => s0) 0 s0 (fun _ _ => 0) 36) = wX at hP1 hD1 hlX
  refine va_new (ci := 4) (fs := [.null, .null, .null, .null, .int 0, .null, .null, .int 0, .null, .null, .null, .int 0, .int 0, .int 0, .int 0, .int 0]) (C := RX5) (T := TX5) (N := 16) hx hb hts (rv_cl_in 4 _ rfl) tyX5 tyX5_ok hown (hts _ (rv_w_in (i := 733) (by decide +kernel))) (hts _ (rv_w_in (i := 734) (by decide +kernel))) (hts _ (rv_w_in (i := 68) (by decide +kernel))) hK hP1 hD1 hS hA rfl (by decide) (Nat.le_of_ble_eq_true rfl) (Nat.le_of_ble_eq_true rfl) dL_8 (fun m0 H2 hP2 hD2 hS2 => ?_)
  have hPX : va_P (dC, dI) vwCl wX H2 := fun k q hk => hP2 k q (by rw [List.getElem?_append_left (List.getElem?_eq_some_iff.mp hk).1]; exact hk)
  have hm0 : (wX ++ [(m0, .inr (4, [.null, .null, .null, .null, .int 0, .null, .null, .int 0, .null, .null, .null, .int 0, .int 0, .int 0, .int 0, .int 0]))])[38]? = some (m0, .inr (4, [.null, .null, .null, .null, .int 0, .null, .null, .int 0, .null, .null, .null, .int 0, .int 0, .int 0, .int 0, .int 0])) := by
    rw [List.getElem?_append_right (by omega), hlX]
    rfl
  have hPm : va_P (dC, dI) vwCl [(m0, .inr (4, [.null, .null, .null, .null, .int 0, .null, .null, .int 0, .null, .null, .null, .int 0, .int 0, .int 0, .int 0, .int 0]))] H2 := by
    intro k q hk
    have hz : k < 1 := (List.getElem?_eq_some_iff.mp hk).1
    rw [show k = 0 by omega] at hk
    cases hk
    exact hP2 38 _ hm0
  have neX : ∀ (k : Nat) (q : Nat × va_E), wX[k]? = some q → ¬ q.1 = m0 := by
    intro k q hk e
    have hk38 : k < 38 := by rw [← hlX]; exact (List.getElem?_eq_some_iff.mp hk).1
    have := hD2.1 k 38 q _ (by rw [List.getElem?_append_left (by omega)]; exact hk) hm0 e
    omega
  have hFm : ∀ q, va_A [(m0, (.inr (4, [.null, .null, .null, .null, .int 0, .null, .null, .int 0, .null, .null, .null, .int 0, .int 0, .int 0, .int 0, .int 0]) : va_E))] H2.size q → s.heap.size ≤ q := by
    intro q h
    rcases h with ⟨k, x, hk⟩ | h
    · have hz : k < 1 := (List.getElem?_eq_some_iff.mp hk).1
      rw [show k = 0 by omega] at hk
      cases hk
      exact hD2.2 38 _ hm0
    · exact Nat.le_trans hS2.1 h
  refine W.widen (k := 39) (n := 646) (Nat.le_of_ble_eq_true rfl) (Nat.le_of_ble_eq_true rfl) ?_
  refine lv_dup hx hb dL_11 rfl ?_
  refine va_callv (va_runI (As := []) (rest := [.ref m0]) ⟨hx, hb, hml, hown, hts⟩ (c_X5 l dC dI dA m0 H2.size) (cwI 0 hts (rv_initG (by decide +kernel : rv_w 737 (.code yX5_init cX5_init 2 none) = true)) rfl rfl rfl (hts _ (rv_w_in (i := 68) (by decide +kernel))) (hts _ (rv_w_in (i := 735) (by decide +kernel))) (hts _ (rv_w_in (i := 736) (by decide +kernel))) rfl (by decide +kernel) ⟨Nat.le_of_ble_eq_true rfl, Nat.le_of_ble_eq_true rfl⟩) ⟨fun a U g mk q => by obtain ⟨z0, z1, z2, z3⟩ := q; exact ⟨z0, z1, z2, va_K.moved (u := U) (U := U.calling g mk a) (Vm.Alike.refl U.vm) z3⟩, fun U hU hW => ⟨rfl, by rw [hU], by rw [hU]; exact hPm, va_K.moved hW.alike hK⟩⟩ rfl rfl hl.1 rfl (lv_room (Nat.le_of_ble_eq_true rfl)) dL_12 ⟨Nat.le_of_ble_eq_true rfl, Nat.le_of_ble_eq_true rfl⟩) hS2 (fun q _ h => hFm q h) hFm (fun u t H3 locs ht hvm h5 hB hz1 hk1 hS3 => ?_)
  obtain ⟨q1, q2, q3, q4, q5, q6, q7, q8, q9, hPM, hDM⟩ := hB
  rw [ht] at hPM
  rw [← wm_eq dA fv aS m0 q1 q2 q3 q4 q5 q6 q7 q8 q9] at hPM hDM
  have ltX : ∀ (k : Nat) (q : Nat × va_E), wX[k]? = some q → q.1 < H2.size ∧ ¬ va_A [(m0, (.inr (4, [.null, .null, .null, .null, .int 0, .null, .null, .int 0, .null, .null, .null, .int 0, .int 0, .int 0, .int 0, .int 0]) : va_E))] H2.size q.1 := by
    intro k q hk
    have hlt := (hPX k q hk).lt
    refine ⟨hlt, fun h => ?_⟩
    rcases h with ⟨j, x, hj⟩ | h
    · have hz : j < 1 := (List.getElem?_eq_some_iff.mp hj).1
      rw [show j = 0 by omega] at hj
      exact neX k q hk (congrArg Prod.fst (Option.some.inj hj)).symm
    · omega
  have hPX3 : va_P (dC, dI) vwCl wX H3 := hPX.kept (fun k q hk => hk1 q.1 (ltX k q hk).1 (ltX k q hk).2)
  subst hwX
  refine W.widen (k := 48) (n := 1326) (Nat.le_of_ble_eq_true rfl) (Nat.le_of_ble_eq_true rfl) ?_
  refine lv_astore_n (lv' := [(2, .ref m0), (1, .ref x0), (0, .ref b)]) hx hb dL_15 rfl hl (by decide) rfl (fun ls hl => ?_)
  refine lv_iconst (v := 0) hx hb dL_16 (by decide) ?_
  refine lv_istore_n (lv' := [(3, .int 0), (2, .ref m0), (1, .ref x0), (0, .ref b)]) hx hb dL_17 rfl hl (by decide) rfl (fun ls hl => ?_)
  obtain ⟨jM, gM⟩ := rv_cw_apart hDM
  obtain ⟨eX, sX⟩ := hE (adL Lx aS) (fun i hi => adL_S Lx aS hi)
  obtain ⟨eM, sM⟩ := hE (adL [m0, q1, q2, q3, q4, q5, q6, q7, q8, q9] aS) (fun i hi => adL_S _ aS hi)
  have E0 : lw_E dC dI dA (adL Lx aS) (adL [m0, q1, q2, q3, q4, q5, q6, q7, q8, q9] aS) fv s := by
    refine ⟨jX, jM, hfv, hK, eX, eM, sX, sM, gX, fun i hi => hFm _ (gM i hi), fun i j hi hj e => ?_⟩
    obtain ⟨h1, h2⟩ := ltX i _ (rv_cw_at (List.getElem?_eq_getElem (show i < (cR (fun _ => s0) 0 s0 (fun _ _ => 0) 36).length from hi)))
    exact h2 (by rw [e]; exact gM j hj)
  have J : lw_I dC dI dA (adL Lx aS) (adL [m0, q1, q2, q3, q4, q5, q6, q7, q8, q9] aS) fv s (40 * 0) H3 locs := ⟨A00, fun _ => 0, fun _ => s0, fun _ _ => 0, 36, s0, hPX3, hPM, rel_0, hS3⟩
  refine lw_loop hL C1 E0 (Nat.le_of_ble_eq_true rfl) (Nat.le_of_ble_eq_true rfl) (L + 1) 0 H3 locs ls (by omega) (by omega) J ?_
  rw [eX0]
  exact lv_sub hl [3, 2, 1, 0] rfl
