/-! SOUNDNESS, fifth part: every instruction, every method -/
section SNX
variable {l : Launch} {dC : Nat → ClassId} {dI : Nat → Nat → Nat} {dA : Nat → ClassId} {ad : Nat → Nat} {fv : Value} {N : Nat} {M : rv_M}
variable {p : Program} {e : Env} {s : State} {m : MethodId} {args : Array Value} {below : List Frame} {meth : Method} {c : Code} {r : rv_X}
theorem rv_cmpW {Q : State → Prop} {R : Room} {H : Heap} {locs : List Loc} {pc : Nat} {ls : Array Slot} {rest : List Value} {off : Int} {cc : ByteArray} (q : Jvm.ClassFile.Cond) (hx : p.tables.exec = Jvm.exec) (hb : c.code = cc) (ht : rv_tg pc off = true) :
    (∀ {x : Int32}, decode cc pc = .ok (.ifCond q off, 3) → (rv_cnd q x 0 = true → W p l e R s m args below meth c H locs 0 0 Q (F0 m (rv_to pc off) ls rest)) → (rv_cnd q x 0 = false → W p l e R s m args below meth c H locs 0 0 Q (F0 m (pc + 3) ls rest)) → W p l e R s m args below meth c H locs 0 0 Q (F0 m pc ls (.int x :: rest))) ∧
    (∀ {x y : Int32}, decode cc pc = .ok (.if_icmp q off, 3) → (rv_cnd q x y = true → W p l e R s m args below meth c H locs 0 0 Q (F0 m (rv_to pc off) ls rest)) → (rv_cnd q x y = false → W p l e R s m args below meth c H locs 0 0 Q (F0 m (pc + 3) ls rest)) → W p l e R s m args below meth c H locs 0 0 Q (F0 m pc ls (.int y :: .int x :: rest))) := by
  have ht := rv_tg_eq ht
  constructor
  · intro x hd k1 k2
    cases q with
    | eq => exact lv_if_eq hx hb hd ht (fun z => k1 (@decide_eq_true _ (Classical.propDecidable _) z)) (fun z => k2 (@decide_eq_false _ (Classical.propDecidable _) z))
    | ne => exact lv_if_ne hx hb hd ht (fun z => k1 (@decide_eq_true _ (Classical.propDecidable _) z)) (fun z => k2 (@decide_eq_false _ (Classical.propDecidable _) (fun y => y z)))
    | lt => exact lv_if_lt hx hb hd ht (fun z => k1 (@decide_eq_true _ (Classical.propDecidable _) z)) (fun z => k2 (@decide_eq_false _ (Classical.propDecidable _) z))
    | ge => exact lv_if_ge hx hb hd ht (fun z => k1 (@decide_eq_true _ (Classical.propDecidable _) z)) (fun z => k2 (@decide_eq_false _ (Classical.propDecidable _) z))
    | gt => exact lv_if_gt hx hb hd ht (fun z => k1 (@decide_eq_true _ (Classical.propDecidable _) z)) (fun z => k2 (@decide_eq_false _ (Classical.propDecidable _) z))
    | le => exact lv_if_le hx hb hd ht (fun z => k1 (@decide_eq_true _ (Classical.propDecidable _) z)) (fun z => k2 (@decide_eq_false _ (Classical.propDecidable _) z))
  · intro x y hd k1 k2
    cases q with
    | eq => exact lv_icmp_eq hx hb hd ht (fun z => k1 (@decide_eq_true _ (Classical.propDecidable _) z)) (fun z => k2 (@decide_eq_false _ (Classical.propDecidable _) z))
    | ne => exact lv_icmp_ne hx hb hd ht (fun z => k1 (@decide_eq_true _ (Classical.propDecidable _) z)) (fun z => k2 (@decide_eq_false _ (Classical.propDecidable _) (fun y => y z)))
    | lt => exact lv_icmp_lt hx hb hd ht (fun z => k1 (@decide_eq_true _ (Classical.propDecidable _) z)) (fun z => k2 (@decide_eq_false _ (Classical.propDecidable _) z))
    | ge => exact lv_icmp_ge hx hb hd ht (fun z => k1 (@decide_eq_true _ (Classical.propDecidable _) z)) (fun z => k2 (@decide_eq_false _ (Classical.propDecidable _) z))
    | gt => exact lv_icmp_gt hx hb hd ht (fun z => k1 (@decide_eq_true _ (Classical.propDecidable _) z)) (fun z => k2 (@decide_eq_false _ (Classical.propDecidable _) z))
    | le => exact lv_icmp_le hx hb hd ht (fun z => k1 (@decide_eq_true _ (Classical.propDecidable _) z)) (fun z => k2 (@decide_eq_false _ (Classical.propDecidable _) z))
theorem rv_stI_cw {w : rv_W} {a : Nat} {xs : List Int32} {i x : Int32} (t : Nat) (hin : vp_in i xs.length) : (rv_cw ad fv dA w).set a (ad a, .inl (dA t, xs.length, .inl (upd (fun j => xs.getD j 0) i.toNatClampNeg x))) = rv_cw ad fv dA (w.set a (.inl (t, .inl (xs.set i.toNatClampNeg x)))) := by
  rw [rv_cw_set, rv_upd (rv_in_lt hin)]
  simp only [rv_ce, List.length_set]
theorem rv_stF_cw {w : rv_W} {a ci k : Nat} {fs : List Value} {v : Value} : (rv_cw ad fv dA w).set a (ad a, .inr (ci, (fs.map (rv_cv ad fv)).set k (rv_cv ad fv v))) = rv_cw ad fv dA (w.set a (.inr (ci, fs.set k v))) := by
  rw [rv_cw_set]
  simp only [rv_ce, List.map_set]
theorem rv_cpy_cw {w : rv_W} {d : Nat} {xs ys : List Int32} {sp dp n : Nat} (h : dp + n ≤ ys.length) : (rv_cw ad fv dA w).set d (ad d, .inl (dA 0, ys.length, .inl (va_cpy (fun j => xs.getD j 0) (fun j => ys.getD j 0) sp dp n))) = rv_cw ad fv dA (w.set d (.inl (0, .inl (rv_tab ys.length (va_cpy (fun j => xs.getD j 0) (fun j => ys.getD j 0) sp dp n))))) := by
  rw [rv_cw_set]
  simp only [rv_ce]
  have hl : (rv_tab ys.length (va_cpy (fun j => xs.getD j 0) (fun j => ys.getD j 0) sp dp n)).length = ys.length := by simp [rv_tab]
  rw [hl]
  congr 6
  funext j
  by_cases hj : j < ys.length
  · simp [rv_tab, hj]
  · rw [pk_cpy_out (by omega)]
    simp [rv_tab, hj]
theorem rv_put_fld {own : String} {i a b pos : Nat} {G : rv_G} (hinj : ∀ i j, i < N → j < N → ad i = ad j → i = j) (C0 : rv_ctx dC dI dA ad fv N M p s m args meth c) (hG : rv_HG l dC dI dA ad fv N M p e s m args below meth c r G) {pc : Nat} {lv : rv_L} {rest : List Value} {w w' : rv_W} {H : Heap} {locs : List Loc} {ls : Array Slot} (hw : w.length = N) (hP : va_P (dC, dI) vwCl (rv_cw ad fv dA w) H) (hS : va_S (rv_A ad N) s.heap H locs) (hl : rv_lh ad fv ls M.2.2.1 lv)
    (hfl : rv_fl M.1.cls i a b pos = true) {ty : FieldType} (hfp : rv_fp a b ty = true) {v : Value} (hn : narrow ty (rv_cv ad fv v) = rv_cv ad fv v) (hf : fits ty (rv_cv ad fv v) = true) {q : Nat} (hst : rv_stF w q a (b / 10) v = some w') (hk : G (pc + 3) lv rest w' = some r) (hd : decode M.2.1 pc = .ok (.putfield i, 3)) :
    rv_WW l dC dI dA ad fv N M p e s m args below meth c r pc H locs ls (v :: .ref q :: rest) := by
  obtain ⟨hx, hb, hr, hml, hown, hts, hlocks, hK, hEn, hSt⟩ := C0
  obtain ⟨fs, h1, h2, rfl⟩ := rv_stF_some hst
  obtain ⟨⟨C, T, Nf⟩, hq, hb10, hlink⟩ := rv_fl_some hfl
  obtain ⟨hfin, hty⟩ := rv_fp_some hq hfp
  obtain ⟨ty0, hty0, hnm⟩ := rv_cl_ty a _ hq
  refine va_put (D := (dC, dI)) (ci := a) (C := C) (T := T) (N := Nf) (ref := (T (b / 10)).1) hx hb hts (rv_cl_in a _ hq) ty0 hty0 hnm hown hK hP (rv_cw_D hinj fv dA hw) hS q (rv_cw_at h1) hq (b / 10) hb10 (hts _ hlink) (fun _ h9 => h9) hfin hty hn hf (by rw [List.length_map]; exact h2) hd (fun H1 locs1 hP1 _ hS1 => ?_)
  refine hG _ _ _ _ _ _ _ hk (rv_wl hw _ _) ?_ hS1 hl
  rw [← rv_stF_cw]
  exact hP1
set_option maxHeartbeats 8000000 in
theorem rv_stepW (hinj : ∀ i j, i < N → j < N → ad i = ad j → i = j) (hN : N ≤ 1000) (hfv : fv.category = 1) (C0 : rv_ctx dC dI dA ad fv N M p s m args meth c) {G : rv_G} {E : rv_F}
    (hG : rv_HG l dC dI dA ad fv N M p e s m args below meth c r G) (hE : rv_HE l dC dI dA ad fv N E) {pc a b pos : Nat} {k : Int32} {lv : rv_L} {st : List Value} {w : rv_W} {H : Heap} {locs : List Loc} {ls : Array Slot} (hw : w.length = N) (hP : va_P (dC, dI) vwCl (rv_cw ad fv dA w) H) (hS : va_S (rv_A ad N) s.heap H locs) (hl : rv_lh ad fv ls M.2.2.1 lv)
    {len : Nat} (i : Jvm.ClassFile.Instr) (hd : decode M.2.1 pc = .ok (i, rv_ln i len)) (hok : rv_okJ M pc a b pos k i = true) (h : rv_stepI G E a b k pc lv st w i = some r) : rv_WW l dC dI dA ad fv N M p e s m args below meth c r pc H locs ls st := by
  have C1 := C0
  obtain ⟨hx, hb, hr, hml, hown, hts, hlocks, hK, hEn, hSt⟩ := C1
  have hg : ∀ pc' lv' st' ls', G pc' lv' st' w = some r → rv_lh ad fv ls' M.2.2.1 lv' → rv_WW l dC dI dA ad fv N M p e s m args below meth c r pc' H locs ls' st' := fun pc' lv' st' ls' h' hl' => hG _ _ _ _ _ _ _ h' hw hP hS hl'
  have hg0 : ∀ pc' st', G pc' lv st' w = some r → rv_WW l dC dI dA ad fv N M p e s m args below meth c r pc' H locs ls st' := fun pc' st' h' => hg _ _ _ _ h' hl
  have hq : ∀ v : Option Value, r = (v, w) → ∀ t : State, t.heap = H → s.WarmedH t.vm → rv_Qc dC dI dA ad fv N r args s (.returned (v.map (rv_cv ad fv))) t := by
    intro v hv t ht _
    subst hv
    exact ⟨rfl, by rw [ht]; exact hP, hw, hS.F ht⟩
  cases i with
  | iconst n => exact lv_iconst hx hb hd (of_decide_eq_true hok) (hg0 _ (.int k :: st) h)
  | bipush n => exact lv_bipush hx hb hd (of_decide_eq_true hok) (hg0 _ (.int k :: st) h)
  | sipush n => exact lv_sipush hx hb hd (of_decide_eq_true hok) (hg0 _ (.int k :: st) h)
  | ldc n =>
    cases ha : Nat.beq a 0 with
    | true =>
      have hok : cond (Nat.beq a 0) _ _ = true := hok
      have h : rv_if (Nat.beq a 0) _ _ = some r := h
      rw [ha] at hok h
      exact lv_ldc hx hb hown (hts _ (rv_w_in hok)) hd (hg0 _ (.int k :: st) h)
    | false =>
      have hok : cond (Nat.beq a 0) _ _ = true := hok
      have h : rv_if (Nat.beq a 0) _ _ = some r := h
      rw [ha] at hok h
      simp only [cond_false, Bool.and_eq_true, decide_eq_true_eq] at hok
      cases hsw : rv_strW[b]? with
      | none => rw [hsw] at hok; cases hok.1
      | some q =>
        rw [hsw] at hok
        have h1 : q.1 = n := Option.some.inj hok.1
        have hR := hSt b q hsw
        rw [h1] at hR
        exact va_ldcS hx hb (by rw [← hok.2]; exact hown) hR hd (hg0 _ (.ref (1000 + b) :: st) h)
  | ldc_w n => exact lv_ldcw hx hb hown (hts _ (rv_w_in hok)) hd (hg0 _ (.int k :: st) h)
  | ldc2_w n => exact lv_ldc2 hx hb hown (hts _ (rv_w_in hok)) hd (hg0 _ (.long k.toInt64 :: st) h)
  | lconst n => exact lv_lconst hx hb hd (of_decide_eq_true hok) (hg0 _ (.long k.toInt64 :: st) h)
  | iload n =>
    obtain ⟨x, h1, h2⟩ := rv_oi_some h
    exact lv_iload hx hb hd (hl.2.2 _ _ h1) (hg0 _ (.int x :: st) h2)
  | iload_n n =>
    obtain ⟨x, h1, h2⟩ := rv_oi_some h
    exact lv_iload_n hx hb hd rfl (hl.2.2 _ _ h1) (hg0 _ (.int x :: st) h2)
  | lload n =>
    obtain ⟨x, h1, h2⟩ := rv_ol_some h
    exact lv_lload hx hb hd (hl.2.2 _ _ h1) (hg0 _ (.long x :: st) h2)
  | lload_n n =>
    obtain ⟨x, h1, h2⟩ := rv_ol_some h
    exact lv_lload_n hx hb hd rfl (hl.2.2 _ _ h1) (hg0 _ (.long x :: st) h2)
  | aload n =>
    obtain ⟨x, h1, h2⟩ := rv_oa_some h
    exact lv_aload hx hb hd (hl.2.2 _ _ h1) (hg0 _ (.ref x :: st) h2)
  | aload_n n =>
    obtain ⟨x, h1, h2⟩ := rv_oa_some h
    exact lv_aload_n hx hb hd rfl (hl.2.2 _ _ h1) (hg0 _ (.ref x :: st) h2)
  | istore n =>
    obtain ⟨x, t, rfl, h2⟩ := rv_i1_some h
    exact lv_istore hx hb hd (rv_la_has hl) (of_decide_eq_true hok) rfl (fun ls' hl' => hg _ _ _ _ h2 (rv_lh_put (v := .int x) hfv hl'))
  | istore_n n =>
    obtain ⟨x, t, rfl, h2⟩ := rv_i1_some h
    exact lv_istore_n hx hb hd rfl (rv_la_has hl) (of_decide_eq_true hok) rfl (fun ls' hl' => hg _ _ _ _ h2 (rv_lh_put (v := .int x) hfv hl'))
  | lstore n =>
    obtain ⟨x, t, rfl, h2⟩ := rv_l1_some h
    exact lv_lstore hx hb hd (rv_la_has hl) (of_decide_eq_true hok) rfl (fun ls' hl' => hg _ _ _ _ h2 (rv_lh_put2 (v := .long x) hfv hl'))
  | lstore_n n =>
    obtain ⟨x, t, rfl, h2⟩ := rv_l1_some h
    exact lv_lstore_n hx hb hd rfl (rv_la_has hl) (of_decide_eq_true hok) rfl (fun ls' hl' => hg _ _ _ _ h2 (rv_lh_put2 (v := .long x) hfv hl'))
  | astore n =>
    obtain ⟨x, t, rfl, h2⟩ := rv_a1_some h
    exact lv_astore hx hb hd (rv_la_has hl) (of_decide_eq_true hok) rfl (fun ls' hl' => hg _ _ _ _ h2 (rv_lh_put (v := .ref x) hfv hl'))
  | astore_n n =>
    obtain ⟨x, t, rfl, h2⟩ := rv_a1_some h
    exact lv_astore_n hx hb hd rfl (rv_la_has hl) (of_decide_eq_true hok) rfl (fun ls' hl' => hg _ _ _ _ h2 (rv_lh_put (v := .ref x) hfv hl'))
  | iinc n z =>
    obtain ⟨x, h1, h2⟩ := rv_oi_some h
    obtain ⟨j, hj⟩ := List.getElem?_of_mem (rv_la_mem (ad := ad) (fv := fv) h1)
    have hok := (Bool.and_eq_true _ _).mp hok
    exact lv_iinc (v := x + k) hx hb hd (rv_la_has hl) hj (by rw [of_decide_eq_true hok.1]) (of_decide_eq_true hok.2) rfl (fun ls' hl' => hg _ _ _ _ h2 (rv_lh_put (v := .int (x + k)) hfv hl'))
  | iadd => obtain ⟨x, y, t, rfl, h2⟩ := rv_i2_some h; exact lv_iadd hx hb hd (hg0 _ (.int (x + y) :: t) h2)
  | isub => obtain ⟨x, y, t, rfl, h2⟩ := rv_i2_some h; exact lv_isub hx hb hd (hg0 _ (.int (x - y) :: t) h2)
  | imul => obtain ⟨x, y, t, rfl, h2⟩ := rv_i2_some h; exact lv_imul hx hb hd (hg0 _ (.int (x * y) :: t) h2)
  | iand => obtain ⟨x, y, t, rfl, h2⟩ := rv_i2_some h; exact lv_iand hx hb hd (hg0 _ (.int (x &&& y) :: t) h2)
  | ior => obtain ⟨x, y, t, rfl, h2⟩ := rv_i2_some h; exact lv_ior hx hb hd (hg0 _ (.int (x ||| y) :: t) h2)
  | ixor => obtain ⟨x, y, t, rfl, h2⟩ := rv_i2_some h; exact lv_ixor hx hb hd (hg0 _ (.int (x ^^^ y) :: t) h2)
  | ishl => obtain ⟨x, y, t, rfl, h2⟩ := rv_i2_some h; exact lv_ishl hx hb hd (hg0 _ (.int (x <<< (y &&& 31)) :: t) h2)
  | ishr => obtain ⟨x, y, t, rfl, h2⟩ := rv_i2_some h; exact lv_ishr hx hb hd (hg0 _ (.int (x >>> (y &&& 31)) :: t) h2)
  | iushr => obtain ⟨x, y, t, rfl, h2⟩ := rv_i2_some h; exact lv_iushr hx hb hd rfl (hg0 _ (.int (x.toUInt32 >>> (y.toUInt32 &&& Int32.toUInt32 31)).toInt32 :: t) h2)
  | idiv =>
    obtain ⟨x, y, t, rfl, h2⟩ := rv_i2_some h
    obtain ⟨h3, h4⟩ := rv_cond_n h2
    exact lv_idiv hx hb hd (rv_eq_n h3) (hg0 _ (.int (x / y) :: t) h4)
  | irem =>
    obtain ⟨x, y, t, rfl, h2⟩ := rv_i2_some h
    obtain ⟨h3, h4⟩ := rv_cond_n h2
    exact lv_irem hx hb hd (rv_eq_n h3) (hg0 _ (.int (x - x / y * y) :: t) h4)
  | lmul => obtain ⟨x, y, t, rfl, h2⟩ := rv_l2_some h; exact lv_lmul hx hb hd (hg0 _ (.long (x * y) :: t) h2)
  | land => obtain ⟨x, y, t, rfl, h2⟩ := rv_l2_some h; exact lv_land hx hb hd (hg0 _ (.long (x &&& y) :: t) h2)
  | lor => obtain ⟨x, y, t, rfl, h2⟩ := rv_l2_some h; exact lv_lor hx hb hd (hg0 _ (.long (x ||| y) :: t) h2)
  | ldiv =>
    obtain ⟨x, y, t, rfl, h2⟩ := rv_l2_some h
    obtain ⟨h3, h4⟩ := rv_cond_n h2
    exact lv_ldiv hx hb hd (rv_eqL_n h3) (hg0 _ (.long (x / y) :: t) h4)
  | lrem =>
    obtain ⟨x, y, t, rfl, h2⟩ := rv_l2_some h
    obtain ⟨h3, h4⟩ := rv_cond_n h2
    exact lv_lrem hx hb hd (rv_eqL_n h3) (hg0 _ (.long (x - x / y * y) :: t) h4)
  | lshl => obtain ⟨x, y, t, rfl, h2⟩ := rv_li_some h; exact lv_lshl hx hb hd rfl (hg0 _ (.long (x <<< (y.toInt64 &&& 63)) :: t) h2)
  | lshr => obtain ⟨x, y, t, rfl, h2⟩ := rv_li_some h; exact lv_lshr hx hb hd rfl (hg0 _ (.long (x >>> (y.toInt64 &&& 63)) :: t) h2)
  | lcmp => obtain ⟨x, y, t, rfl, h2⟩ := rv_l2_some h; exact W.lcmp hx hb hd (hg0 _ (.int (lg_cmp x y) :: t) h2)
  | i2l => obtain ⟨x, t, rfl, h2⟩ := rv_i1_some h; exact lv_i2l hx hb hd rfl (hg0 _ (.long x.toInt64 :: t) h2)
  | i2b => obtain ⟨x, t, rfl, h2⟩ := rv_i1_some h; exact lv_i2b hx hb hd rfl (hg0 _ (.int x.toInt8.toInt32 :: t) h2)
  | i2s => obtain ⟨x, t, rfl, h2⟩ := rv_i1_some h; exact lv_i2s hx hb hd rfl (hg0 _ (.int x.toInt16.toInt32 :: t) h2)
  | i2c => obtain ⟨x, t, rfl, h2⟩ := rv_i1_some h; exact lv_i2c hx hb hd rfl (hg0 _ (.int (x.toUInt32 % 65536).toInt32 :: t) h2)
  | dup =>
    have h : rv_v1 st (fun x r => G (pc + 1) lv (x :: x :: r) w) = some r := h
    unfold rv_v1 at h; split at h
    · exact lv_dup hx hb hd rfl (hg0 _ (.int _ :: .int _ :: _) h)
    · exact lv_dup hx hb hd rfl (hg0 _ (.ref _ :: .ref _ :: _) h)
    · cases h
  | dup2 =>
    have h : rv_v2 st (fun x y r => G (pc + 1) lv (y :: x :: y :: x :: r) w) = some r := h
    unfold rv_v2 at h; split at h
    · exact lv_dup2_11 hx hb hd rfl rfl (hg0 _ (.int _ :: .int _ :: .int _ :: .int _ :: _) h)
    · exact lv_dup2_11 hx hb hd rfl rfl (hg0 _ (.int _ :: .ref _ :: .int _ :: .ref _ :: _) h)
    · cases h
  | pop =>
    have h : rv_v1 st (fun _ r => G (pc + 1) lv r w) = some r := h
    unfold rv_v1 at h; split at h
    · exact lv_pop hx hb hd rfl (hg0 _ _ h)
    · exact lv_pop hx hb hd rfl (hg0 _ _ h)
    · cases h
  | ifCond q n =>
    obtain ⟨x, t, rfl, h2⟩ := rv_i1_some h
    exact (rv_cmpW q hx hb hok).1 hd (fun z => by rw [z] at h2; exact hg0 _ t h2) (fun z => by rw [z] at h2; exact hg0 _ t h2)
  | if_icmp q n =>
    obtain ⟨x, y, t, rfl, h2⟩ := rv_i2_some h
    exact (rv_cmpW q hx hb hok).2 hd (fun z => by rw [z] at h2; exact hg0 _ t h2) (fun z => by rw [z] at h2; exact hg0 _ t h2)
  | goto n => exact lv_goto hx hb hd (rv_tg_eq hok) (hg0 _ st h)
  | tableswitch d lo hi os =>
    obtain ⟨x, t, rfl, h2⟩ := rv_i1_some h
    have hok : (decide (hi = lo + (os.toList.length : Int) - 1) && rv_tg pc d && os.toList.all (rv_tg pc) && decide (-1000 ≤ lo) && decide (hi ≤ 1000)) = true := hok
    simp only [Bool.and_eq_true, decide_eq_true_eq] at hok
    obtain ⟨⟨⟨⟨o1, o2⟩, o3⟩, o4⟩, o5⟩ := hok
    rcases rv_tsw_some h2 with ⟨j, o, z1, z2, z3⟩ | ⟨z1, z2⟩
    · have hj : j < os.toList.length := (List.getElem?_eq_some_iff.mp z1).1
      have hv : x.toInt = lo + j := by rw [z2]; exact rv_ofI (by omega) (by omega)
      refine lv_tableIn hx hb hd (by omega) (by omega) (off := o) ?_ (rv_tg_eq (List.all_eq_true.mp o3 o (List.mem_of_getElem? z1))) (hg0 _ t z3)
      rw [hv, show (lo + (j : Int) - lo).toNat = j by omega, ← Array.getElem?_toList]
      exact z1
    · refine lv_tableOut hx hb hd ?_ (rv_tg_eq o2) (hg0 _ t z2)
      by_cases hlo : x.toInt < lo
      · exact Or.inl hlo
      · right
        refine Int.not_le.mp fun hhi => ?_
        refine z1 (x.toInt - lo).toNat (by omega) ?_
        rw [show lo + ((x.toInt - lo).toNat : Int) = x.toInt by omega, Int32.ofInt_toInt]
  | lookupswitch d os =>
    obtain ⟨x, t, rfl, h2⟩ := rv_i1_some h
    have hok : ((os.toList.zip (os.toList.drop 1)).all (fun (a, next) => a.1 < next.1) && rv_tg pc d && os.toList.all (fun q => rv_tg pc q.2 && decide (-1000 ≤ q.1) && decide (q.1 ≤ 1000))) = true := hok
    rw [Bool.and_eq_true, Bool.and_eq_true] at hok
    obtain ⟨⟨o1, o2⟩, o3⟩ := hok
    have o4 : ∀ q ∈ os.toList, rv_tg pc q.2 = true ∧ -1000 ≤ q.1 ∧ q.1 ≤ 1000 := fun q hq => by
      have := List.all_eq_true.mp o3 q hq
      simp only [Bool.and_eq_true, decide_eq_true_eq] at this
      exact ⟨this.1.1, this.1.2, this.2⟩
    obtain ⟨off, z1, z2, z3⟩ := rv_lsw_some (fun q hq => (o4 q hq).2) h2
    refine lv_lookup hx hb hd o1 z1 (rv_tg_eq ?_) (hg0 _ t z2)
    rcases z3 with z3 | ⟨q, hq, z3⟩
    · rw [z3]; exact o2
    · rw [← z3]; exact (o4 q hq).1
  | iaload =>
    obtain ⟨x, y, t, rfl, h2⟩ := rv_ai_some h
    obtain ⟨z, h3, h4⟩ := rv_bind_s h2
    exact (rv_loadW hinj hN C0 hG hw hP hS hl).1 hd z h3 h4
  | baload =>
    obtain ⟨x, y, t, rfl, h2⟩ := rv_ai_some h
    obtain ⟨z, h3, h4⟩ := rv_bind_s h2
    exact (rv_loadW hinj hN C0 hG hw hP hS hl).2.1 hd z h3 h4
  | aaload =>
    obtain ⟨x, y, t, rfl, h2⟩ := rv_ai_some h
    obtain ⟨z, h3, h4⟩ := rv_bind_s h2
    exact (rv_loadW hinj hN C0 hG hw hP hS hl).2.2.1 hd z h3 h4
  | arraylength =>
    obtain ⟨x, t, rfl, h2⟩ := rv_a1_some h
    obtain ⟨z, h3, h4⟩ := rv_bind_s h2
    exact (rv_loadW (i := 0) hinj hN C0 hG hw hP hS hl).2.2.2 hd z h3 h4
  | iastore =>
    obtain ⟨q, j, x, t, rfl, h2⟩ := rv_aii_some h
    obtain ⟨w', h3, h4⟩ := rv_bind_s h2
    obtain ⟨xs, z1, z2, rfl⟩ := rv_stI_some h3
    refine va_iast hx hb hK hP (rv_cw_D hinj fv dA hw) hS q 0 (rv_cw_at z1) rfl z2 hd (fun H1 locs1 hP1 _ hS1 => ?_)
    refine hG _ _ _ _ _ _ _ h4 (rv_wl hw _ _) ?_ hS1 hl
    rw [← rv_stI_cw 0 z2]
    exact hP1
  | bastore =>
    obtain ⟨q, j, x, t, rfl, h2⟩ := rv_aii_some h
    obtain ⟨w', h3, h4⟩ := rv_bind_s h2
    obtain ⟨xs, z1, z2, rfl⟩ := rv_stB_some h3
    refine va_bast hx hb hK hP (rv_cw_D hinj fv dA hw) hS q 1 (rv_cw_at z1) rfl z2 hd (fun H1 locs1 hP1 _ hS1 => ?_)
    refine hG _ _ _ _ _ _ _ h4 (rv_wl hw _ _) ?_ hS1 hl
    rw [← rv_stI_cw 1 z2]
    rw [vp_nar_byte] at hP1
    exact hP1
  | getfield n =>
    obtain ⟨q, t, rfl, h2⟩ := rv_a1_some h
    have str : (Nat.ble 1000 q && Nat.ble q 1013) = true → 1000 ≤ (q : Nat) ∧ (q : Nat) - 1000 < 14 ∧ 1000 + ((q : Nat) - 1000) = q ∧ 2000 + ((q : Nat) - 1000) = 1000 + q := by
      intro z
      have z := (Bool.and_eq_true _ _).mp z
      have z1 := Nat.le_of_ble_eq_true z.1
      have z2 := Nat.le_of_ble_eq_true z.2
      omega
    have hok : cond (Nat.beq (b % 10) 4) _ (cond (Nat.beq (b % 10) 5) _ _) = true := hok
    have h2 : rv_if (Nat.beq (b % 10) 1) _ (rv_if (Nat.beq (b % 10) 3) _ (rv_if (Nat.beq (b % 10) 4) _ _)) = some r := h2
    cases b1 : Nat.beq (b % 10) 1 with
    | true =>
      have e1 : b % 10 = 1 := Nat.eq_of_beq_eq_true b1
      rw [b1] at h2
      rw [e1] at hok
      have hfl : rv_fl M.1.cls n a b pos = true := ((Bool.and_eq_true _ _).mp hok).1
      obtain ⟨x, h3, h4⟩ := rv_bind_s h2
      obtain ⟨fs, z1, z2⟩ := rv_ldFI_some h3
      obtain ⟨⟨C, T, Nf⟩, hq', hb10, hlink⟩ := rv_fl_some hfl
      exact va_get (D := (dC, dI)) (ci := a) (v := .int x) (C := C) (T := T) (N := Nf) (ref := (T (b / 10)).1) hx hb hts (rv_cl_in a _ hq') hown hK hP q (rv_cw_at z1) hq' (b / 10) hb10 (hts _ hlink) (fun _ h9 => h9) (by rw [List.getElem?_map, z2]; rfl) hd (hg0 _ (.int x :: t) h4)
    | false =>
      rw [b1] at h2
      cases b3 : Nat.beq (b % 10) 3 with
      | true =>
        have e3 : b % 10 = 3 := Nat.eq_of_beq_eq_true b3
        rw [b3] at h2
        rw [e3] at hok
        have hfl : rv_fl M.1.cls n a b pos = true := ((Bool.and_eq_true _ _).mp hok).1
        obtain ⟨x, h3, h4⟩ := rv_bind_s h2
        obtain ⟨fs, z1, z2⟩ := rv_ldFR_some h3
        obtain ⟨⟨C, T, Nf⟩, hq', hb10, hlink⟩ := rv_fl_some hfl
        exact va_get (D := (dC, dI)) (ci := a) (v := .ref (ad x)) (C := C) (T := T) (N := Nf) (ref := (T (b / 10)).1) hx hb hts (rv_cl_in a _ hq') hown hK hP q (rv_cw_at z1) hq' (b / 10) hb10 (hts _ hlink) (fun _ h9 => h9) (by rw [List.getElem?_map, z2]; rfl) hd (hg0 _ (.ref x :: t) h4)
      | false =>
        rw [b3] at h2
        cases b4 : Nat.beq (b % 10) 4 with
        | true =>
          rw [b4] at h2 hok
          obtain ⟨h3, h4⟩ := rv_cond_s h2
          obtain ⟨y1, y2, y3, y4⟩ := str h3
          have hO := (hEn.1.1 ((q : Nat) - 1000) y2).2.2.1
          simp only [y3, y4] at hO
          exact vk_getf hx hb hO hS hown (hts _ (rv_w_in hok)) (fun _ h9 => h9) hd (hg0 _ (.ref (1000 + q) :: t) h4)
        | false =>
          rw [b4] at h2 hok
          obtain ⟨h3, h4⟩ := rv_cond_s h2
          obtain ⟨y1, y2, y3, y4⟩ := str h3
          cases b5 : Nat.beq (b % 10) 5 with
          | true =>
            have hok : cond (Nat.beq (b % 10) 5) _ _ = true := hok
            rw [b5] at hok
            have hO := (hEn.1.1 ((q : Nat) - 1000) y2).2.1
            simp only [y3] at hO
            exact vk_getf hx hb hO hS hown (hts _ (rv_w_in hok)) (fun _ h9 => h9) hd (hg0 _ (.int 0 :: t) h4)
          | false =>
            exfalso
            have hok : cond (Nat.beq (b % 10) 5) _ _ = true := hok
            rw [b5] at hok
            have hok := ((Bool.and_eq_true _ _).mp hok).2
            rw [b1, b3] at hok
            cases hok
  | putfield n =>
    have hok := (Bool.and_eq_true _ _).mp hok
    have hok2 : cond (Nat.beq (b % 10) 3) (rv_fp a b (.array .byte)) (cond (Nat.beq (b % 10) 2) (rv_fp a b .boolean) (rv_fp a b .int)) = true := hok.2
    have h : rv_if (Nat.beq (b % 10) 3) _ (rv_if (Nat.beq (b % 10) 2) _ _) = some r := h
    cases b3 : Nat.beq (b % 10) 3 with
    | true =>
      rw [b3] at h hok2
      obtain ⟨x, y, t, rfl, h2⟩ := rv_aa_some h
      obtain ⟨w', h3, h4⟩ := rv_bind_s h2
      exact rv_put_fld (own := M.1.cls) hinj C0 hG hw hP hS hl hok.1 hok2 rfl rfl h3 h4 hd
    | false =>
      rw [b3] at h hok2
      cases b2 : Nat.beq (b % 10) 2 with
      | true =>
        have h : rv_if (Nat.beq (b % 10) 2) _ _ = some r := h
        have hok2 : cond (Nat.beq (b % 10) 2) _ _ = true := hok2
        rw [b2] at h hok2
        obtain ⟨x, y, t, rfl, h2⟩ := rv_iaR_some h
        obtain ⟨h2a, h2⟩ := rv_cond_s h2
        obtain ⟨w', h3, h4⟩ := rv_bind_s h2
        have hy : y = 0 ∨ y = 1 := rv_bz_or h2a
        exact rv_put_fld (own := M.1.cls) hinj C0 hG hw hP hS hl hok.1 hok2 (by rcases hy with rfl | rfl <;> rfl) (by rcases hy with rfl | rfl <;> rfl) h3 h4 hd
      | false =>
        have h : rv_if (Nat.beq (b % 10) 2) _ _ = some r := h
        have hok2 : cond (Nat.beq (b % 10) 2) _ _ = true := hok2
        rw [b2] at h hok2
        obtain ⟨x, y, t, rfl, h2⟩ := rv_iaR_some h
        obtain ⟨w', h3, h4⟩ := rv_bind_s h2
        exact rv_put_fld (own := M.1.cls) hinj C0 hG hw hP hS hl hok.1 hok2 rfl rfl h3 h4 hd
  | getstatic n =>
    have hok : cond (Nat.beq a 0) _ (cond (Nat.beq a 1) _ _) = true := hok
    have h : rv_if (Nat.beq a 0) _ (rv_if (Nat.beq a 1) _ _) = some r := h
    cases a0 : Nat.beq a 0 with
    | true =>
      rw [a0] at hok h
      exact va_gets hx hb hEn.2.1.1 hS hown (hts _ (rv_w_in hok)) (fun _ h9 => h9) hd (hg0 _ (.ref 3000 :: st) h)
    | false =>
      rw [a0] at hok h
      have hok : cond (Nat.beq a 1) _ _ = true := hok
      have h : rv_if (Nat.beq a 1) _ _ = some r := h
      cases a1 : Nat.beq a 1 with
      | true =>
        rw [a1] at hok h
        exact va_gets hx hb hEn.2.2.1 hS hown (hts _ (rv_w_in hok)) (fun _ h9 => h9) hd (hg0 _ (.int 1 :: st) h)
      | false =>
        rw [a1] at hok h
        exact va_gets hx hb hEn.2.2.2 hS hown (hts _ (rv_w_in hok)) (fun _ h9 => h9) hd (hg0 _ (.retAddr 0 :: st) h)
  | invokevirtual n =>
    obtain ⟨z1, q, z2, z3⟩ := rv_call_some h
    obtain ⟨M', hM, hisC, hMet⟩ := hE _ _ _ _ z2 hw
    have hok : (rv_cl M n a pos (b / 4 - 1) && rv_cs a false && decide (0 < b / 4)) = true := hok
    simp only [Bool.and_eq_true, decide_eq_true_eq] at hok
    refine rv_callV hfv C0 hM hok.1.1 hok.1.2 hok.2 z1.2 z1.1 hisC hMet hd hP hS hl.1 (fun H1 locs1 hP1 hn1 hS1 => ?_)
    have := hG _ _ _ _ _ _ _ z3 hn1 hP1 hS1 hl
    simp only [rv_WW, List.map_append] at this
    rw [show (q.1.map (rv_cv ad fv)).toList = q.1.toList.map (rv_cv ad fv) by cases q.1 <;> rfl]
    exact this
  | invokestatic n =>
    have hok : cond (Nat.beq a 9999) _ (cond (Nat.beq a 9998) _ (cond (Nat.beq a 9997) _ _)) = true := hok
    have h : rv_if (Nat.beq a 9999) _ (rv_if (Nat.beq a 9998) _ (rv_if (Nat.beq a 9997) _ _)) = some r := h
    cases a9 : Nat.beq a 9999 with
    | true =>
      rw [a9] at hok h
      obtain ⟨s0, sp, d, dp, n0, t, rfl, h2⟩ := rv_cp_some h
      obtain ⟨h3, h4⟩ := rv_if_s h2
      obtain ⟨w', h5, h6⟩ := rv_bind_s h4
      obtain ⟨xs, ys, z1, z2, ⟨y1, y2, y3, y4, y5⟩, rfl⟩ := rv_cpy_some h5
      have hok : (rv_w pos (.methodLink M.1.cls n arraycopyName) && decide (1 ≤ M.2.2.2.2.2.1) && decide (8 + (nativeFrameWords "java/lang/System" "arraycopy" 5 + 11) ≤ M.2.2.2.2.2.2.1)) = true := hok
      simp only [Bool.and_eq_true, decide_eq_true_eq] at hok
      have h3 := Nat.le_of_ble_eq_true h3
      refine va_copyi (ty := .int) hx hb (by rw [hml]; exact hl.1.symm) hown (hts _ (rv_w_in hok.1.1)) (hts _ (rv_nat_in _ (by simp [rv_ntw]))) (hts _ (rv_nat_in _ (by simp [rv_ntw]))) (hts _ (rv_nat_in _ (by simp [rv_ntw]))) hK hP (rv_cw_D hinj fv dA hw) hS s0 d 0 0 (rv_cw_at z1) (rv_cw_at z2) rfl rfl rfl (Int32.not_lt.mpr y1) (Int32.not_lt.mpr y2) (Int32.not_lt.mpr y3) y4 y5 (fun _ _ => rfl) hok.1.2 (by rw [rv_sum_cat hfv]; exact Nat.le_trans (Nat.add_le_add_right h3 _) hok.2) hd (fun H1 locs1 hP1 _ hS1 => ?_)
      refine hG _ _ _ _ _ _ _ h6 (rv_wl hw _ _) ?_ hS1 hl
      rw [← rv_cpy_cw y5]
      exact hP1
    | false =>
      rw [a9] at hok h
      have hok : cond (Nat.beq a 9998) _ (cond (Nat.beq a 9997) _ _) = true := hok
      have h : rv_if (Nat.beq a 9998) _ (rv_if (Nat.beq a 9997) _ _) = some r := h
      cases a8 : Nat.beq a 9998 with
      | true =>
        rw [a8] at hok h
        obtain ⟨x, y, t, rfl, h2⟩ := rv_i2_some h
        obtain ⟨h3, h4⟩ := rv_if_s h2
        have hok : (rv_w pos (.methodLink M.1.cls n Lib.Math.max.name) && decide (1 ≤ M.2.2.2.2.2.1) && decide (21 ≤ M.2.2.2.2.2.2.1)) = true := hok
        simp only [Bool.and_eq_true, decide_eq_true_eq] at hok
        have h3 := Nat.le_of_ble_eq_true h3
        exact va_mmax hx hb (by rw [hml]; exact hl.1.symm) hown (hts _ (rv_w_in hok.1.1)) (hts _ (rv_nat_in _ (by simp [rv_ntw]))) (hts _ (rv_nat_in _ (by simp [rv_ntw]))) (hts _ (rv_nat_in _ (by simp [rv_ntw]))) hok.1.2 (by rw [rv_sum_cat hfv]; exact Nat.le_trans (Nat.add_le_add_right h3 _) hok.2) (Nat.le_refl _) (Nat.le_refl _) hd (hg0 _ (.int (rv_max x y) :: t) h4)
      | false =>
        rw [a8] at hok h
        have hok : cond (Nat.beq a 9997) _ _ = true := hok
        have h : rv_if (Nat.beq a 9997) _ _ = some r := h
        cases a7 : Nat.beq a 9997 with
        | true =>
          rw [a7] at hok h
          obtain ⟨x, y, t, rfl, h2⟩ := rv_i2_some h
          obtain ⟨h3, h4⟩ := rv_if_s h2
          have hok : (rv_w pos (.methodLink M.1.cls n Lib.Math.min.name) && decide (1 ≤ M.2.2.2.2.2.1) && decide (21 ≤ M.2.2.2.2.2.2.1)) = true := hok
          simp only [Bool.and_eq_true, decide_eq_true_eq] at hok
          have h3 := Nat.le_of_ble_eq_true h3
          exact va_mmin hx hb (by rw [hml]; exact hl.1.symm) hown (hts _ (rv_w_in hok.1.1)) (hts _ (rv_nat_in _ (by simp [rv_ntw]))) (hts _ (rv_nat_in _ (by simp [rv_ntw]))) (hts _ (rv_nat_in _ (by simp [rv_ntw]))) hok.1.2 (by rw [rv_sum_cat hfv]; exact Nat.le_trans (Nat.add_le_add_right h3 _) hok.2) (Nat.le_refl _) (Nat.le_refl _) hd (hg0 _ (.int (rv_min x y) :: t) h4)
        | false =>
          rw [a7] at hok h
          obtain ⟨z1, q, z2, z3⟩ := rv_call_some h
          obtain ⟨M', hM, hisC, hMet⟩ := hE _ _ _ _ z2 hw
          have hok : (rv_cl M n a pos (b / 4) && rv_cs a true) = true := hok
          simp only [Bool.and_eq_true] at hok
          refine rv_callS hfv C0 hM hok.1 hok.2 z1.2 z1.1 hMet hd hP hS hl.1 (fun H1 locs1 hP1 hn1 hS1 => ?_)
          have := hG _ _ _ _ _ _ _ z3 hn1 hP1 hS1 hl
          simp only [rv_WW, List.map_append] at this
          rw [show (q.1.map (rv_cv ad fv)).toList = q.1.toList.map (rv_cv ad fv) by cases q.1 <;> rfl]
          exact this
  | ireturn =>
    obtain ⟨x, t, rfl, h2⟩ := rv_i1_some h
    obtain ⟨rfl, h3⟩ := rv_end_some h2
    have hok : decide (M.2.2.2.1 = some (cond (Nat.beq a 0) FieldType.int (cond (Nat.beq a 1) FieldType.boolean (cond (Nat.beq a 2) FieldType.byte FieldType.char)))) = true := hok
    have hok := hr.trans (of_decide_eq_true hok)
    have h3 : rv_if (Nat.beq a 0) _ (rv_if (Nat.beq a 1) _ (rv_if (Nat.beq a 2) _ _)) = some r := h3
    cases a0 : Nat.beq a 0 with
    | true =>
      rw [a0] at hok h3
      exact W.iret hx hb hok (hq (some (.int x)) (Option.some.inj h3).symm) hS.2.2 hd hlocks
    | false =>
      rw [a0] at hok h3
      have h3 : rv_if (Nat.beq a 1) _ (rv_if (Nat.beq a 2) _ _) = some r := h3
      have hok : meth.sig.returnType = some (cond (Nat.beq a 1) FieldType.boolean (cond (Nat.beq a 2) FieldType.byte FieldType.char)) := hok
      cases a1 : Nat.beq a 1 with
      | true =>
        rw [a1] at hok h3
        obtain ⟨y1, y2⟩ := rv_cond_s h3
        have hy : x = 0 ∨ x = 1 := rv_bz_or y1
        exact W.zret hx hb hok (by rcases hy with rfl | rfl <;> rfl) (hq (some (.int x)) (Option.some.inj y2).symm) hS.2.2 hd hlocks
      | false =>
        rw [a1] at hok h3
        have h3 : rv_if (Nat.beq a 2) _ _ = some r := h3
        have hok : meth.sig.returnType = some (cond (Nat.beq a 2) FieldType.byte FieldType.char) := hok
        cases a2 : Nat.beq a 2 with
        | true =>
          rw [a2] at hok h3
          obtain ⟨y1, y2⟩ := rv_cond_s h3
          obtain ⟨j, hj, hx0⟩ := rv_toN (n := 0) (by decide) (Nat.le_of_ble_eq_true y1)
          have hy : x = 0 := by rw [hx0, show j = 0 by omega]; rfl
          exact W.zret hx hb hok (by rw [hy]; rfl) (hq (some (.int x)) (Option.some.inj y2).symm) hS.2.2 hd hlocks
        | false =>
          rw [a2] at hok h3
          obtain ⟨y1, y2⟩ := rv_cond_s h3
          obtain ⟨j, hj, hxj⟩ := rv_toN (n := 255) (by decide) (Nat.le_of_ble_eq_true y1)
          exact W.zret hx hb hok (by rw [hxj]; exact (pk_charN (by omega)).1) (hq (some (.int x)) (Option.some.inj y2).symm) hS.2.2 hd hlocks
  | lreturn =>
    obtain ⟨x, t, rfl, h2⟩ := rv_l1_some h
    obtain ⟨rfl, h3⟩ := rv_end_some h2
    exact W.lret hx hb (hr.trans (of_decide_eq_true hok)) (hq (some (.long x)) (Option.some.inj h3).symm) hS.2.2 hd hlocks
  | areturn =>
    obtain ⟨x, t, rfl, h2⟩ := rv_a1_some h
    obtain ⟨rfl, h3⟩ := rv_end_some h2
    have hok : (decide (M.2.2.2.1 = some (.array .int)) || decide (M.2.2.2.1 = some (.object "java/lang/String"))) = true := hok
    simp only [Bool.or_eq_true, decide_eq_true_eq] at hok
    rcases hok with hok | hok
    · exact W.aret hx hb (hr.trans hok) (Or.inr ⟨_, rfl⟩) (Or.inr ⟨_, rfl⟩) (hq (some (.ref x)) (Option.some.inj h3).symm) hS.2.2 hd hlocks
    · exact W.aret hx hb (hr.trans hok) (Or.inl ⟨_, rfl⟩) (Or.inr ⟨_, rfl⟩) (hq (some (.ref x)) (Option.some.inj h3).symm) hS.2.2 hd hlocks
  | return_ =>
    obtain ⟨rfl, h3⟩ := rv_end_some h
    exact W.vret hx hb (hr.trans (of_decide_eq_true hok)) (hq none (Option.some.inj h3).symm) hS.2.2 hd hlocks
  | _ => cases h
end SNX
