/-! THE LAW'S LOOP -/
theorem lw_I.mono {dC : Nat → ClassId} {dI : Nat → Nat → Nat} {dA : Nat → ClassId} {aX aM : Nat → Nat} {fv : Value} {s : State} {h h' : Nat} {H : Heap} {locs : List Loc} (J : lw_I dC dI dA aX aM fv s h H locs) (hh : h ≤ h') : lw_I dC dI dA aX aM fv s h' H locs := by
  obtain ⟨A, r, S, F, rb, s1, h1, h2, R, h3⟩ := J
  exact ⟨A, r, S, F, rb, s1, h1, h2, R.mono hh, h3⟩
section LWL
variable {l : Launch} {dC : Nat → ClassId} {dI : Nat → Nat → Nat} {dA : Nat → ClassId} {aX aM : Nat → Nat} {fv : Value}
variable {p : Program} {e : Env} {s : State} {m : MethodId} {below : List Frame} {meth : Method} {c : Code} {Q : State → Prop} {b L : Nat} {xs : Nat → Int32}
set_option maxHeartbeats 4000000 in
set_option maxRecDepth 100000 in
theorem lw_sw {H : Heap} {locs : List Loc} {ls : Array Slot} {cells slots : Nat} (hL : L ≤ 3072) (C0 : lw_At p s m meth c b L xs) (E0 : lw_E dC dI dA aX aM fv s) {i : Nat} (hi : i + 6 ≤ L) (hl : lv_has ls 4 [(0, .ref b), (1, .ref (aX 0)), (2, .ref (aM 0)), (3, .int (nI i))]) (hc1 : cells ≤ 600000) (hc2 : slots ≤ 7302250)
    {h : Nat} (hh : h ≤ 30000) (J : lw_I dC dI dA aX aM fv s h H locs) {u : Nat} (hu : u < 64)
    (kk : ∀ (H1 : Heap) (locs1 : List Loc), lw_I dC dI dA aX aM fv s (h + 40) H1 locs1 → W p l e room_1 s m #[Value.ref b] below meth c H1 locs1 cells slots Q (F0 m 1577 ls [])) :
    W p l e room_1 s m #[Value.ref b] below meth c H locs cells slots Q (F0 m 33 ls [.int (nI u)]) := by
  have hx := C0.1
  have hb := C0.2.1
  by_cases u0 : u = 0
  · subst u0
    refine lv_tableIn (x := nI 0) (off := 191) (tgt := 224) hx hb dL_33 (by decide) (by decide) rfl (by decide) ?_
    exact lw_case (h' := h) hL C0 E0 lk_0 (by omega) hl hc1 hc2 J (fun A r S F rb s1 R => s_warm R (xs (i + 1)) (xs (i + 1 + 1))) (fun H1 locs1 J1 => kk H1 locs1 (J1.mono (by omega)))
  by_cases u1 : u = 1
  · subst u1
    refine lv_tableIn (x := nI 1) (off := 224) (tgt := 257) hx hb dL_33 (by decide) (by decide) rfl (by decide) ?_
    exact lw_case (h' := h) hL C0 E0 lk_1 (by omega) hl hc1 hc2 J (fun A r S F rb s1 R => s_scent R (xs (i + 1)) (xs (i + 1 + 1)) (xs (i + 1 + 1 + 1))) (fun H1 locs1 J1 => kk H1 locs1 (J1.mono (by omega)))
  by_cases u2 : u = 2
  · subst u2
    refine lv_tableIn (x := nI 2) (off := 267) (tgt := 300) hx hb dL_33 (by decide) (by decide) rfl (by decide) ?_
    exact lw_case (h' := h) hL C0 E0 lk_2 (by omega) hl hc1 hc2 J (fun A r S F rb s1 R => s_tub R (xs (i + 1)) (xs (i + 1 + 1))) (fun H1 locs1 J1 => kk H1 locs1 (J1.mono (by omega)))
  by_cases u3 : u = 3
  · subst u3
    refine lv_tableIn (x := nI 3) (off := 300) (tgt := 333) hx hb dL_33 (by decide) (by decide) rfl (by decide) ?_
    exact lw_case (h' := h) hL C0 E0 lk_3 (by omega) hl hc1 hc2 J (fun A r S F rb s1 R => s_fresh R (xs (i + 1))) (fun H1 locs1 J1 => kk H1 locs1 (J1.mono (by omega)))
  by_cases u4 : u = 4
  · subst u4
    refine lv_tableIn (x := nI 4) (off := 323) (tgt := 356) hx hb dL_33 (by decide) (by decide) rfl (by decide) ?_
    exact lw_case (h' := h) hL C0 E0 lk_4 (by omega) hl hc1 hc2 J (fun A r S F rb s1 R => s_plug R (xs (i + 1))) (fun H1 locs1 J1 => kk H1 locs1 (J1.mono (by omega)))
  by_cases u5 : u = 5
  · subst u5
    refine lv_tableIn (x := nI 5) (off := 346) (tgt := 379) hx hb dL_33 (by decide) (by decide) rfl (by decide) ?_
    exact lw_case (h' := h) hL C0 E0 lk_5 (by omega) hl hc1 hc2 J (fun A r S F rb s1 R => s_bather R (xs (i + 1)) (xs (i + 1 + 1))) (fun H1 locs1 J1 => kk H1 locs1 (J1.mono (by omega)))
  by_cases u6 : u = 6
  · subst u6
    refine lv_tableIn (x := nI 6) (off := 379) (tgt := 412) hx hb dL_33 (by decide) (by decide) rfl (by decide) ?_
    exact lw_case (h' := h) hL C0 E0 lk_6 (by omega) hl hc1 hc2 J (fun A r S F rb s1 R => s_of R (xs (i + 1)) (xs (i + 1 + 1))) (fun H1 locs1 J1 => kk H1 locs1 (J1.mono (by omega)))
  by_cases u7 : u = 7
  · subst u7
    refine lv_tableIn (x := nI 7) (off := 412) (tgt := 445) hx hb dL_33 (by decide) (by decide) rfl (by decide) ?_
    exact lw_case (h' := h) hL C0 E0 lk_7 (by omega) hl hc1 hc2 J (fun A r S F rb s1 R => s_change R (xs (i + 1)) (xs (i + 1 + 1)) (xs (i + 1 + 1 + 1))) (fun H1 locs1 J1 => kk H1 locs1 (J1.mono (by omega)))
  by_cases u8 : u = 8
  · subst u8
    refine lv_tableIn (x := nI 8) (off := 455) (tgt := 488) hx hb dL_33 (by decide) (by decide) rfl (by decide) ?_
    exact lw_case (h' := h) hL C0 E0 lk_8 (by omega) hl hc1 hc2 J (fun A r S F rb s1 R => s_swap R (xs (i + 1)) (xs (i + 1 + 1))) (fun H1 locs1 J1 => kk H1 locs1 (J1.mono (by omega)))
  by_cases u9 : u = 9
  · subst u9
    refine lv_tableIn (x := nI 9) (off := 488) (tgt := 521) hx hb dL_33 (by decide) (by decide) rfl (by decide) ?_
    exact lw_case (h' := h + 40) hL C0 E0 lk_9 (by omega) hl hc1 hc2 J (fun A r S F rb s1 R => s_go R hh (xs (i + 1))) (fun H1 locs1 J1 => kk H1 locs1 J1)
  by_cases u10 : u = 10
  · subst u10
    refine lv_tableIn (x := nI 10) (off := 511) (tgt := 544) hx hb dL_33 (by decide) (by decide) rfl (by decide) ?_
    exact lw_case (h' := h) hL C0 E0 lk_10 (by omega) hl hc1 hc2 J (fun A r S F rb s1 R => s_now R (xs (i + 1))) (fun H1 locs1 J1 => kk H1 locs1 (J1.mono (by omega)))
  by_cases u11 : u = 11
  · subst u11
    refine lv_tableIn (x := nI 11) (off := 534) (tgt := 567) hx hb dL_33 (by decide) (by decide) rfl (by decide) ?_
    exact lw_case (h' := h) hL C0 E0 lk_11 (by omega) hl hc1 hc2 J (fun A r S F rb s1 R => s_ahead R hh (xs (i + 1)) (xs (i + 1 + 1)) (xs (i + 1 + 1 + 1))) (fun H1 locs1 J1 => kk H1 locs1 (J1.mono (by omega)))
  by_cases u12 : u = 12
  · subst u12
    refine lv_tableIn (x := nI 12) (off := 577) (tgt := 610) hx hb dL_33 (by decide) (by decide) rfl (by decide) ?_
    exact lw_case (h' := h) hL C0 E0 lk_12 (by omega) hl hc1 hc2 J (fun A r S F rb s1 R => s_knows R hh (xs (i + 1)) (xs (i + 1 + 1))) (fun H1 locs1 J1 => kk H1 locs1 (J1.mono (by omega)))
  by_cases u13 : u = 13
  · subst u13
    refine lv_tableIn (x := nI 13) (off := 610) (tgt := 643) hx hb dL_33 (by decide) (by decide) rfl (by decide) ?_
    exact lw_case (h' := h) hL C0 E0 lk_13 (by omega) hl hc1 hc2 J (fun A r S F rb s1 R => s_when R hh (xs (i + 1)) (xs (i + 1 + 1))) (fun H1 locs1 J1 => kk H1 locs1 (J1.mono (by omega)))
  by_cases u14 : u = 14
  · subst u14
    refine lv_tableIn (x := nI 14) (off := 643) (tgt := 676) hx hb dL_33 (by decide) (by decide) rfl (by decide) ?_
    exact lw_case (h' := h) hL C0 E0 lk_14 (by omega) hl hc1 hc2 J (fun A r S F rb s1 R => s_cold R hh (xs (i + 1)) (xs (i + 1 + 1))) (fun H1 locs1 J1 => kk H1 locs1 (J1.mono (by omega)))
  by_cases u15 : u = 15
  · subst u15
    refine lv_tableIn (x := nI 15) (off := 676) (tgt := 709) hx hb dL_33 (by decide) (by decide) rfl (by decide) ?_
    exact lw_case (h' := h) hL C0 E0 lk_15 (by omega) hl hc1 hc2 J (fun A r S F rb s1 R => s_left R (xs (i + 1)) (xs (i + 1 + 1))) (fun H1 locs1 J1 => kk H1 locs1 (J1.mono (by omega)))
  by_cases u16 : u = 16
  · subst u16
    refine lv_tableIn (x := nI 16) (off := 709) (tgt := 742) hx hb dL_33 (by decide) (by decide) rfl (by decide) ?_
    exact lw_case (h' := h) hL C0 E0 lk_16 (by omega) hl hc1 hc2 J (fun A r S F rb s1 R => s_needed R (xs (i + 1)) (xs (i + 1 + 1))) (fun H1 locs1 J1 => kk H1 locs1 (J1.mono (by omega)))
  by_cases u17 : u = 17
  · subst u17
    refine lv_tableIn (x := nI 17) (off := 742) (tgt := 775) hx hb dL_33 (by decide) (by decide) rfl (by decide) ?_
    exact lw_case (h' := h) hL C0 E0 lk_17 (by omega) hl hc1 hc2 J (fun A r S F rb s1 R => s_swapFor R hh (xs (i + 1)) (xs (i + 1 + 1))) (fun H1 locs1 J1 => kk H1 locs1 (J1.mono (by omega)))
  by_cases u18 : u = 18
  · subst u18
    refine lv_tableIn (x := nI 18) (off := 775) (tgt := 808) hx hb dL_33 (by decide) (by decide) rfl (by decide) ?_
    exact lw_case (h' := h) hL C0 E0 lk_18 (by omega) hl hc1 hc2 J (fun A r S F rb s1 R => s_seat R hh (xs (i + 1)) (xs (i + 1 + 1))) (fun H1 locs1 J1 => kk H1 locs1 (J1.mono (by omega)))
  by_cases u19 : u = 19
  · subst u19
    refine lv_tableIn (x := nI 19) (off := 808) (tgt := 841) hx hb dL_33 (by decide) (by decide) rfl (by decide) ?_
    exact lw_case (h' := h) hL C0 E0 lk_19 (by omega) hl hc1 hc2 J (fun A r S F rb s1 R => s_kindFor R hh (xs (i + 1)) (xs (i + 1 + 1))) (fun H1 locs1 J1 => kk H1 locs1 (J1.mono (by omega)))
  by_cases u20 : u = 20
  · subst u20
    refine lv_tableIn (x := nI 20) (off := 841) (tgt := 874) hx hb dL_33 (by decide) (by decide) rfl (by decide) ?_
    exact lw_case (h' := h) hL C0 E0 lk_20 (by omega) hl hc1 hc2 J (fun A r S F rb s1 R => s_freshFor R hh (xs (i + 1)) (xs (i + 1 + 1))) (fun H1 locs1 J1 => kk H1 locs1 (J1.mono (by omega)))
  by_cases u21 : u = 21
  · subst u21
    refine lv_tableIn (x := nI 21) (off := 874) (tgt := 907) hx hb dL_33 (by decide) (by decide) rfl (by decide) ?_
    exact lw_case (h' := h) hL C0 E0 lk_21 (by omega) hl hc1 hc2 J (fun A r S F rb s1 R => s_hides R hh (xs (i + 1)) (xs (i + 1 + 1)) (xs (i + 1 + 1 + 1)) (xs (i + 1 + 1 + 1 + 1))) (fun H1 locs1 J1 => kk H1 locs1 (J1.mono (by omega)))
  by_cases u22 : u = 22
  · subst u22
    refine lv_tableIn (x := nI 22) (off := 927) (tgt := 960) hx hb dL_33 (by decide) (by decide) rfl (by decide) ?_
    exact lw_case (h' := h) hL C0 E0 lk_22 (by omega) hl hc1 hc2 J (fun A r S F rb s1 R => s_leave R hh (xs (i + 1)) (xs (i + 1 + 1))) (fun H1 locs1 J1 => kk H1 locs1 (J1.mono (by omega)))
  by_cases u23 : u = 23
  · subst u23
    refine lv_tableIn (x := nI 23) (off := 960) (tgt := 993) hx hb dL_33 (by decide) (by decide) rfl (by decide) ?_
    exact lw_case (h' := h) hL C0 E0 lk_23 (by omega) hl hc1 hc2 J (fun A r S F rb s1 R => s_plugFor R hh (xs (i + 1)) (xs (i + 1 + 1))) (fun H1 locs1 J1 => kk H1 locs1 (J1.mono (by omega)))
  by_cases u24 : u = 24
  · subst u24
    refine lv_tableIn (x := nI 24) (off := 993) (tgt := 1026) hx hb dL_33 (by decide) (by decide) rfl (by decide) ?_
    exact lw_case (h' := h) hL C0 E0 lk_24 (by omega) hl hc1 hc2 J (fun A r S F rb s1 R => s_fits R hh (xs (i + 1)) (xs (i + 1 + 1))) (fun H1 locs1 J1 => kk H1 locs1 (J1.mono (by omega)))
  by_cases u25 : u = 25
  · subst u25
    refine lv_tableIn (x := nI 25) (off := 1026) (tgt := 1059) hx hb dL_33 (by decide) (by decide) rfl (by decide) ?_
    exact lw_case (h' := h) hL C0 E0 lk_25 (by omega) hl hc1 hc2 J (fun A r S F rb s1 R => s_kinds R hh (xs (i + 1)) (xs (i + 1 + 1))) (fun H1 locs1 J1 => kk H1 locs1 (J1.mono (by omega)))
  by_cases u26 : u = 26
  · subst u26
    refine lv_tableIn (x := nI 26) (off := 1059) (tgt := 1092) hx hb dL_33 (by decide) (by decide) rfl (by decide) ?_
    exact lw_case (h' := h + 40) hL C0 E0 lk_26 (by omega) hl hc1 hc2 J (fun A r S F rb s1 R => s_plugs R hh (xs (i + 1))) (fun H1 locs1 J1 => kk H1 locs1 J1)
  by_cases u27 : u = 27
  · subst u27
    refine lv_tableIn (x := nI 27) (off := 1082) (tgt := 1115) hx hb dL_33 (by decide) (by decide) rfl (by decide) ?_
    exact lw_caseL (h' := h) hL C0 E0 lk_27 (by omega) hl hc1 hc2 J (fun A r S F rb s1 R => s_odds R (xs (i + 1)) (xs (i + 1 + 1))) (fun H1 locs1 J1 => kk H1 locs1 (J1.mono (by omega)))
  by_cases u28 : u = 28
  · subst u28
    refine lv_tableIn (x := nI 28) (off := 1116) (tgt := 1149) hx hb dL_33 (by decide) (by decide) rfl (by decide) ?_
    exact lw_case (h' := h) hL C0 E0 lk_28 (by omega) hl hc1 hc2 J (fun A r S F rb s1 R => s_seed R (xs (i + 1))) (fun H1 locs1 J1 => kk H1 locs1 (J1.mono (by omega)))
  by_cases u29 : u = 29
  · subst u29
    refine lv_tableIn (x := nI 29) (off := 1139) (tgt := 1172) hx hb dL_33 (by decide) (by decide) rfl (by decide) ?_
    exact lw_case (h' := h) hL C0 E0 lk_29 (by omega) hl hc1 hc2 J (fun A r S F rb s1 R => s_feed R (xs (i + 1)) (xs (i + 1 + 1))) (fun H1 locs1 J1 => kk H1 locs1 (J1.mono (by omega)))
  by_cases u30 : u = 30
  · subst u30
    refine lv_tableIn (x := nI 30) (off := 1172) (tgt := 1205) hx hb dL_33 (by decide) (by decide) rfl (by decide) ?_
    exact lw_case (h' := h) hL C0 E0 lk_30 (by omega) hl hc1 hc2 J (fun A r S F rb s1 R => s_wipe R) (fun H1 locs1 J1 => kk H1 locs1 (J1.mono (by omega)))
  by_cases u31 : u = 31
  · subst u31
    refine lv_tableIn (x := nI 31) (off := 1185) (tgt := 1218) hx hb dL_33 (by decide) (by decide) rfl (by decide) ?_
    exact lw_case (h' := h) hL C0 E0 lk_31 (by omega) hl hc1 hc2 J (fun A r S F rb s1 R => s_text R) (fun H1 locs1 J1 => kk H1 locs1 (J1.mono (by omega)))
  by_cases u32 : u = 32
  · subst u32
    refine lv_tableIn (x := nI 32) (off := 1198) (tgt := 1231) hx hb dL_33 (by decide) (by decide) rfl (by decide) ?_
    exact lw_case (h' := h) hL C0 E0 lk_32 (by omega) hl hc1 hc2 J (fun A r S F rb s1 R => s_hold R (xs (i + 1)) (xs (i + 1 + 1))) (fun H1 locs1 J1 => kk H1 locs1 (J1.mono (by omega)))
  by_cases u33 : u = 33
  · subst u33
    refine lv_tableIn (x := nI 33) (off := 1231) (tgt := 1264) hx hb dL_33 (by decide) (by decide) rfl (by decide) ?_
    exact lw_case (h' := h) hL C0 E0 lk_33 (by omega) hl hc1 hc2 J (fun A r S F rb s1 R => s_as R (xs (i + 1)) (xs (i + 1 + 1))) (fun H1 locs1 J1 => kk H1 locs1 (J1.mono (by omega)))
  by_cases u34 : u = 34
  · subst u34
    refine lv_tableIn (x := nI 34) (off := 1264) (tgt := 1297) hx hb dL_33 (by decide) (by decide) rfl (by decide) ?_
    exact lw_case (h' := h) hL C0 E0 lk_34 (by omega) hl hc1 hc2 J (fun A r S F rb s1 R => s_sheet R (xs (i + 1)) (xs (i + 1 + 1)) (xs (i + 1 + 1 + 1))) (fun H1 locs1 J1 => kk H1 locs1 (J1.mono (by omega)))
  by_cases u35 : u = 35
  · subst u35
    refine lv_tableIn (x := nI 35) (off := 1307) (tgt := 1340) hx hb dL_33 (by decide) (by decide) rfl (by decide) ?_
    exact lw_case (h' := h) hL C0 E0 lk_35 (by omega) hl hc1 hc2 J (fun A r S F rb s1 R => s_write R (xs (i + 1)) (xs (i + 1 + 1)) (xs (i + 1 + 1 + 1))) (fun H1 locs1 J1 => kk H1 locs1 (J1.mono (by omega)))
  by_cases u36 : u = 36
  · subst u36
    refine lv_tableIn (x := nI 36) (off := 1350) (tgt := 1383) hx hb dL_33 (by decide) (by decide) rfl (by decide) ?_
    exact lw_case (h' := h) hL C0 E0 lk_36 (by omega) hl hc1 hc2 J (fun A r S F rb s1 R => s_copy R (xs (i + 1)) (xs (i + 1 + 1)) (xs (i + 1 + 1 + 1)) (xs (i + 1 + 1 + 1 + 1)) (xs (i + 1 + 1 + 1 + 1 + 1))) (fun H1 locs1 J1 => kk H1 locs1 (J1.mono (by omega)))
  by_cases u37 : u = 37
  · subst u37
    refine lv_tableIn (x := nI 37) (off := 1413) (tgt := 1446) hx hb dL_33 (by decide) (by decide) rfl (by decide) ?_
    exact lw_case (h' := h) hL C0 E0 lk_37 (by omega) hl hc1 hc2 J (fun A r S F rb s1 R => s_load R (xs (i + 1))) (fun H1 locs1 J1 => kk H1 locs1 (J1.mono (by omega)))
  by_cases u38 : u = 38
  · subst u38
    refine lv_tableIn (x := nI 38) (off := 1436) (tgt := 1469) hx hb dL_33 (by decide) (by decide) rfl (by decide) ?_
    exact lw_case (h' := h) hL C0 E0 lk_38 (by omega) hl hc1 hc2 J (fun A r S F rb s1 R => s_judge R (xs (i + 1))) (fun H1 locs1 J1 => kk H1 locs1 (J1.mono (by omega)))
  by_cases u39 : u = 39
  · subst u39
    refine lv_tableIn (x := nI 39) (off := 1459) (tgt := 1492) hx hb dL_33 (by decide) (by decide) rfl (by decide) ?_
    exact lw_case (h' := h) hL C0 E0 lk_39 (by omega) hl hc1 hc2 J (fun A r S F rb s1 R => s_image R) (fun H1 locs1 J1 => kk H1 locs1 (J1.mono (by omega)))
  by_cases u40 : u = 40
  · subst u40
    refine lv_tableIn (x := nI 40) (off := 1472) (tgt := 1505) hx hb dL_33 (by decide) (by decide) rfl (by decide) ?_
    exact lw_case (h' := h) hL C0 E0 lk_40 (by omega) hl hc1 hc2 J (fun A r S F rb s1 R => s_undo R) (fun H1 locs1 J1 => kk H1 locs1 (J1.mono (by omega)))
  by_cases u41 : u = 41
  · subst u41
    refine lv_tableIn (x := nI 41) (off := 1485) (tgt := 1518) hx hb dL_33 (by decide) (by decide) rfl (by decide) ?_
    exact lw_case (h' := h) hL C0 E0 lk_41 (by omega) hl hc1 hc2 J (fun A r S F rb s1 R => s_tear R) (fun H1 locs1 J1 => kk H1 locs1 (J1.mono (by omega)))
  by_cases u42 : u = 42
  · subst u42
    refine lv_tableIn (x := nI 42) (off := 1498) (tgt := 1531) hx hb dL_33 (by decide) (by decide) rfl (by decide) ?_
    exact lw_case (h' := h) hL C0 E0 lk_42 (by omega) hl hc1 hc2 J (fun A r S F rb s1 R => s_count R (xs (i + 1))) (fun H1 locs1 J1 => kk H1 locs1 (J1.mono (by omega)))
  by_cases u43 : u = 43
  · subst u43
    refine lv_tableIn (x := nI 43) (off := 1521) (tgt := 1554) hx hb dL_33 (by decide) (by decide) rfl (by decide) ?_
    exact lw_case (h' := h) hL C0 E0 lk_43 (by omega) hl hc1 hc2 J (fun A r S F rb s1 R => s_status R (xs (i + 1))) (fun H1 locs1 J1 => kk H1 locs1 (J1.mono (by omega)))
  refine lv_tableOut (x := nI u) (tgt := 1577) hx hb dL_33 (Or.inr ?_) (by decide) ?_
  · rw [nI_toInt (by omega)]
    omega
  · exact kk H locs (J.mono (by omega))
theorem gt_L {n i : Nat} (hn : n ≤ 3072) (hi : i ≤ 3072) : (Int32.ofNat n - 6 < nI i) ↔ n < i + 6 := by
  rw [Int32.lt_iff_toInt_lt]
  have e : Int32.ofNat n - 6 = Int32.ofInt ((n : Int) - 6) := by
    rw [show (6 : Int32) = Int32.ofInt 6 from rfl, show Int32.ofNat n = Int32.ofInt (n : Int) from rfl, ← Int32.ofInt_sub]
  rw [e, Int32.toInt_ofInt_of_le (by omega) (by omega), nI_toInt (by omega)]
  omega
theorem lw_loop {cells slots : Nat} (hL : L ≤ 3072) (C0 : lw_At p s m meth c b L xs) (E0 : lw_E dC dI dA aX aM fv s) (hc1 : cells ≤ 600000) (hc2 : slots ≤ 7302250) : ∀ (d t : Nat) (H : Heap) (locs : List Loc) (ls : Array Slot), L < 6 * (t + d) → 6 * t ≤ L → lw_I dC dI dA aX aM fv s (40 * t) H locs → lv_has ls 4 [(0, .ref b), (1, .ref (aX 0)), (2, .ref (aM 0)), (3, .int (nI (6 * t)))] →
    W p l e room_1 s m #[Value.ref b] below meth c H locs cells slots (lw_Z below #[Value.ref b] s) (F0 m 18 ls []) := by
  intro d
  induction d with
  | zero => intro t H locs ls h1 h2; omega
  | succ d ih =>
    intro t H locs ls h1 h2 J hl
    have hx := C0.1
    have hb := C0.2.1
    have hr := C0.2.2.1
    have hX := C0.2.2.2.2.2.2.1
    have hbl := C0.2.2.2.2.2.2.2.1
    have hlocks := C0.2.2.2.2.2.2.2.2.1
    have hbA : ¬ (fun q : Nat => s.heap.size ≤ q) b := Nat.not_le.mpr hbl
    have hS : va_S (fun q => s.heap.size ≤ q) s.heap H locs := by
      obtain ⟨A, r, S, F, rb, s1, -, -, -, h3⟩ := J
      exact h3
    refine lv_iload_n hx hb dL_18 rfl (lv_at hl 3 rfl) ?_
    refine lv_aload_n hx hb dL_19 rfl (lv_at hl 0 rfl) ?_
    refine va_slen hx hb hX hbl hbA hS dL_20 ?_
    refine lv_bipush (v := 6) hx hb dL_21 (by decide) ?_
    refine lv_isub hx hb dL_23 ?_
    refine lv_icmp_gt (tgt := 1583) hx hb dL_24 (by decide) (fun _ => ?_) (fun g => ?_)
    · refine lv_iconst (v := 1) hx hb dL_1583 (by decide) ?_
      refine va_forget hS.2.2 ?_
      refine W.widen (k := 600000) (n := 7302250) hc1 hc2 ?_
      exact lw_ret hx hb hr hlocks dL_1584
    · have hi : 6 * t + 6 ≤ L := Nat.not_lt.mp (fun f => g ((gt_L hL (by omega)).mpr f))
      refine lv_aload_n hx hb dL_27 rfl (lv_at hl 0 rfl) ?_
      refine lv_iload_n hx hb dL_28 rfl (lv_at hl 3 rfl) ?_
      refine va_sld hx hb hX hbl hbA hS (vp_in_nI (show 6 * t < L by omega) (by omega)) dL_29 ?_
      refine lv_bipush (v := 63) hx hb dL_30 (by decide) ?_
      refine lv_iand hx hb dL_32 ?_
      obtain ⟨u, hu, eu⟩ := pk_andE (xs (nI (6 * t)).toNatClampNeg) (m := 63) 6 (by decide)
      rw [eu]
      refine lw_sw hL C0 E0 hi hl hc1 hc2 (h := 40 * t) (by omega) J hu (fun H1 locs1 J1 => ?_)
      refine lv_iinc (v := nI (6 * (t + 1))) (lv' := [(3, .int (nI (6 * (t + 1)))), (0, .ref b), (1, .ref (aX 0)), (2, .ref (aM 0))]) hx hb dL_1577 hl (k := 3) rfl (nI_add (6 * t) 6) (by decide) rfl (fun ls hl => ?_)
      refine lv_goto (tgt := 18) hx hb dL_1580 (by decide) ?_
      exact ih (t + 1) H1 locs1 ls (by omega) (by omega) (J1.mono (by omega)) (lv_sub hl [1, 2, 3, 0] rfl)
end LWL
