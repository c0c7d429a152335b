/-! WHAT THE STATEMENT GIVES AT THE LAW'S ENTRY -/
theorem lt_in {w : Jvm.Cond} (i : Nat) (h : lw_tbl[i]? = some w) : w ∈ lw_tbl := List.mem_of_getElem? h
theorem gw_aI : rv_w 141 (.arrayClass .int) = true := by decide +kernel
theorem gw_aB : rv_w 169 (.arrayClass .byte) = true := by decide +kernel
theorem lt_aQ : lw_tbl[143]? = some (.arrayOver (.object "TubSteps$Sheet")) := by decide +kernel
theorem lt_i0 : lw_tbl[170]? = some (.instantiable RX1 3) := by decide +kernel
theorem lt_i1 : lw_tbl[86]? = some (.instantiable RX2 12) := by decide +kernel
theorem lt_i2 : lw_tbl[145]? = some (.instantiable RX3 6) := by decide +kernel
theorem lt_i3 : lw_tbl[78]? = some (.instantiable RX4 9) := by decide +kernel
theorem lt_i4 : lw_tbl[734]? = some (.instantiable RX5 16) := by decide +kernel
theorem lt_n0 : lw_tbl[588]? = some (.laysStatic "java/lang/String" "COMPACT_STRINGS" "Z") := by decide +kernel
theorem lt_n1 : lw_tbl[604]? = some (.laysStatic "jdk/internal/util/Preconditions" "SIOOBE_FORMATTER" "Ljava/util/function/BiFunction;") := by decide +kernel
theorem lt_n2 : lw_tbl[670]? = some (.laysStatic "TubSteps$Kinds" "ABOVE" "[I") := by decide +kernel
theorem lt_m0 : lw_tbl[73]? = some (.initialized "java/lang/String") := by decide +kernel
theorem lt_m1 : lw_tbl[75]? = some (.initialized "jdk/internal/util/Preconditions") := by decide +kernel
theorem lt_m2 : lw_tbl[69]? = some (.initialized "TubSteps$Kinds") := by decide +kernel
def lw_sP : List Nat := [568, 569, 570, 571, 572, 573, 574, 632, 641, 642, 644, 649, 651, 652]
theorem lt_str : ∀ i : Fin 14, lw_tbl[lw_sP.getD i.val 0]? = some (.stringRef "TubSteps$TextReader" (rv_strW.getD i.val (0, "")).1 (rv_strW.getD i.val (0, "")).2) := by decide +kernel
def lw_FL : List Jvm.Cond := flatC (Jvm.Cond.and given_1 narrow_1)
def lw_tm (i : Nat) : Term := .string "TubSteps$TextReader" (rv_strW.getD i (0, "")).1
theorem lw_fl {w : Jvm.Cond} {i : Nat} (h : lw_FL[i]? = some w) : w ∈ flatC (Jvm.Cond.and given_1 narrow_1) := List.mem_of_getElem? h
def lw_len : List Nat := rv_strB.map List.length
def lp_ex : List Nat := [19, 30, 40, 49, 67, 78, 93, 109, 122, 138, 156, 173, 190, 211]
def lp_co : List Nat := [20, 31, 41, 50, 68, 79, 94, 110, 123, 139, 157, 174, 191, 212]
def lp_ar : List Nat := [21, 32, 42, 51, 69, 80, 95, 111, 124, 140, 158, 175, 192, 213]
def lp_le : List Nat := [22, 33, 43, 52, 70, 81, 96, 112, 125, 141, 159, 176, 193, 214]
def lp_el : List (List Nat) := [[23, 24, 25, 26, 27, 28, 29], [34, 35, 36, 37, 38], [44, 45, 46], [53, 54, 55, 56, 57, 58, 59, 60, 61, 62, 63], [71, 72, 73], [82, 83, 84, 85, 86, 87], [97, 98, 99, 100, 101, 102], [113, 114], [126, 127, 128, 129], [142, 143, 144, 145, 146], [160, 161, 162], [177, 178], [194, 195, 196, 197, 198], [215, 216, 217, 218]]
def lp_ne : List (List Nat) := [[0, 39, 47, 64, 74, 88, 103, 115, 130, 147, 163, 179, 199, 219], [0, 0, 48, 65, 75, 89, 104, 116, 131, 148, 164, 180, 200, 220], [0, 0, 0, 66, 76, 90, 105, 117, 132, 149, 165, 181, 201, 221], [0, 0, 0, 0, 77, 91, 106, 118, 133, 150, 166, 182, 202, 222], [0, 0, 0, 0, 0, 92, 107, 119, 134, 151, 167, 183, 203, 223], [0, 0, 0, 0, 0, 0, 108, 120, 135, 152, 168, 184, 204, 224], [0, 0, 0, 0, 0, 0, 0, 121, 136, 153, 169, 185, 205, 225], [0, 0, 0, 0, 0, 0, 0, 0, 137, 154, 170, 186, 206, 226], [0, 0, 0, 0, 0, 0, 0, 0, 0, 155, 171, 187, 207, 227], [0, 0, 0, 0, 0, 0, 0, 0, 0, 0, 172, 188, 208, 228], [0, 0, 0, 0, 0, 0, 0, 0, 0, 0, 0, 189, 209, 229], [0, 0, 0, 0, 0, 0, 0, 0, 0, 0, 0, 0, 210, 230], [0, 0, 0, 0, 0, 0, 0, 0, 0, 0, 0, 0, 0, 231], [0, 0, 0, 0, 0, 0, 0, 0, 0, 0, 0, 0, 0, 0]]
def lp_ab : List Nat := [12, 13, 14, 15, 16, 17, 18]
theorem fl_ex : ∀ i : Fin 14, lw_FL[lp_ex.getD i.val 0]? = some (.exactly (lw_tm i.val) "java/lang/String") := by decide +kernel
theorem fl_co : ∀ i : Fin 14, lw_FL[lp_co.getD i.val 0]? = some (.eq (.field (lw_tm i.val) "java/lang/String" "coder" "B") (.int 0)) := by decide +kernel
theorem fl_ar : ∀ i : Fin 14, lw_FL[lp_ar.getD i.val 0]? = some (.arrayOf (.field (lw_tm i.val) "java/lang/String" "value" "[B") .byte) := by decide +kernel
theorem fl_le : ∀ i : Fin 14, lw_FL[lp_le.getD i.val 0]? = some (.eq (.length (.field (lw_tm i.val) "java/lang/String" "value" "[B")) (.int (Int32.ofNat (lw_len.getD i.val 0)))) := by decide +kernel
theorem fl_el : ∀ i : Fin 14, ∀ j : Fin 11, j.val < lw_len.getD i.val 0 → lw_FL[(lp_el.getD i.val []).getD j.val 0]? = some (.eq (.elem (.field (lw_tm i.val) "java/lang/String" "value" "[B") (.int (Int32.ofNat j.val))) (.int ((rv_strB.getD i.val []).getD j.val 0))) := by decide +kernel
theorem fl_ne : ∀ i j : Fin 14, i < j → lw_FL[(lp_ne.getD i.val []).getD j.val 0]? = some (.not (.eq (lw_tm i.val) (lw_tm j.val))) := by decide +kernel
theorem fl_l11 : ∀ i : Fin 14, lw_len.getD i.val 0 ≤ 11 := by decide +kernel
theorem fl_ab0 : lw_FL[10]? = some (.arrayOf (.static "TubSteps$Kinds" "ABOVE" "[I") .int) := by decide +kernel
theorem fl_ab1 : lw_FL[11]? = some (.eq (.length (.static "TubSteps$Kinds" "ABOVE" "[I")) (.int (Int32.ofNat 7))) := by decide +kernel
theorem fl_ab2 : ∀ j : Fin 7, lw_FL[lp_ab.getD j.val 0]? = some (.eq (.elem (.static "TubSteps$Kinds" "ABOVE" "[I") (.int (Int32.ofNat j.val))) (.int (rv_above.getD j.val 0))) := by decide +kernel
theorem fl_cs : lw_FL[4]? = some (.eq (.static "java/lang/String" "COMPACT_STRINGS" "Z") (.int 1)) := by decide +kernel
theorem fl_si : lw_FL[5]? = some (.isRef (.static "jdk/internal/util/Preconditions" "SIOOBE_FORMATTER" "Ljava/util/function/BiFunction;")) := by decide +kernel
theorem vk_S.at {N : Nat} {len : List Nat} {byt : List (List Int32)} {aK aV bK bV : Nat → Nat} {A : Nat → Prop} {U : State} {H : Heap} (h : vk_S N len byt aK aV A U H) (eK : ∀ i, i < N → bK i = aK i) (eV : ∀ i, i < N → bV i = aV i) : vk_S N len byt bK bV A U H := by
  refine ⟨fun i hi => ?_, fun i j hi hj q => h.2 i j hi hj (by rw [← eK i hi, ← eK j hj]; exact q)⟩
  rw [eK i hi, eV i hi]
  exact h.1 i hi
theorem lw_env {p : Program} {s : State} {m : MethodId} {meth : Method} {c : Code} {b L : Nat} {xs : Nat → Int32} (C0 : lw_At p s m meth c b L xs) :
    ∃ (dC : Nat → ClassId) (dI : Nat → Nat → Nat) (dA : Nat → ClassId) (fv : Value) (aS : Nat → Nat), fv.category = 1 ∧ va_K (dC, dI) vwCl (rv_tys dA) s ∧ ∀ ad : Nat → Nat, (∀ i, 1000 ≤ i → ad i = aS i) → rv_env ad fv (fun q => s.heap.size ≤ q) s s.heap ∧ rv_strs ad s := by
  obtain ⟨hx, hb, hr, hml, hown, hts, hX, hbl, hlocks, hgv⟩ := C0
  have hs := flat_of_before _ hgv
  have hA : ∀ a : Nat, a < s.heap.size → ¬ (fun q => s.heap.size ≤ q) a := fun a h => Nat.not_le.mpr h
  have tsT : ∀ w ∈ rv_T, w.before #[Value.ref b] s = true := fun w hw => hts w (List.mem_filter.mp hw).1
  obtain ⟨c0, i0, K0⟩ := u_known (n := 3) tsT (rv_cl_in 0 _ rfl) (hts _ (lt_in _ lt_i0))
  obtain ⟨c1, i1, K1⟩ := u_known (n := 12) tsT (rv_cl_in 1 _ rfl) (hts _ (lt_in _ lt_i1))
  obtain ⟨c2, i2, K2⟩ := u_known (n := 6) tsT (rv_cl_in 2 _ rfl) (hts _ (lt_in _ lt_i2))
  obtain ⟨c3, i3, K3⟩ := u_known (n := 9) tsT (rv_cl_in 3 _ rfl) (hts _ (lt_in _ lt_i3))
  obtain ⟨c4, i4, K4⟩ := u_known (n := 16) tsT (rv_cl_in 4 _ rfl) (hts _ (lt_in _ lt_i4))
  obtain ⟨a0, k0, p0, f0, g0, q0⟩ := Cond.arrayClass_spec (tsT _ (rv_w_in gw_aI))
  obtain ⟨a1, k1, p1, f1, g1, q1⟩ := Cond.arrayClass_spec (tsT _ (rv_w_in gw_aB))
  obtain ⟨p2, a2, k2, e2, -, g2, q2, f2⟩ := Cond.arrayOver_spec (hts _ (lt_in _ lt_aQ))
  obtain ⟨aK, aV, hS, hT⟩ := vk_Sof (args := #[Value.ref b]) (s := s) (N := 14) (tm := lw_tm) (len := lw_len) (byt := rv_strB) (A := fun q => s.heap.size ≤ q) (fun i hi => by have := fl_l11 ⟨i, hi⟩; simp only at this; omega) (fun i hi => hs _ (lw_fl (fl_ex ⟨i, hi⟩))) (fun i hi => hs _ (lw_fl (fl_co ⟨i, hi⟩))) (fun i hi => hs _ (lw_fl (fl_ar ⟨i, hi⟩))) (fun i hi => hs _ (lw_fl (fl_le ⟨i, hi⟩)))
    (fun i hi j hj => hs _ (lw_fl (fl_el ⟨i, hi⟩ ⟨j, by have := fl_l11 ⟨i, hi⟩; simp only at this; omega⟩ hj))) (fun i j hi hj hij => by
      rcases Nat.lt_or_gt_of_ne hij with h | h
      · exact Or.inl (hs _ (lw_fl (fl_ne ⟨i, hi⟩ ⟨j, hj⟩ h)))
      · exact Or.inr (hs _ (lw_fl (fl_ne ⟨j, hj⟩ ⟨i, hi⟩ h)))) hA
  obtain ⟨t0, ht0, hT0⟩ := va_Tof (args := #[Value.ref b]) (s := s) (tm := .static "TubSteps$Kinds" "ABOVE" "[I") (ty := .int) (N := 7) (f := fun j => .int (rv_above.getD j 0)) (A := fun q => s.heap.size ≤ q) (by decide) (hs _ (lw_fl fl_ab0)) (va_eqt (hs _ (lw_fl fl_ab1))) (fun j hj => va_eqt (hs _ (lw_fl (fl_ab2 ⟨j, hj⟩)))) hA
  have z0 : va_Z "TubSteps$Kinds" "ABOVE" "[I" (.ref t0) (fun q => s.heap.size ≤ q) s s.heap := va_Zref (hts _ (lt_in _ lt_n2)) (hts _ (lt_in _ lt_m2)) ht0 hA
  have z1 : va_Z "java/lang/String" "COMPACT_STRINGS" "Z" (.int 1) (fun q => s.heap.size ≤ q) s s.heap := va_Zof (hts _ (lt_in _ lt_n0)) (hts _ (lt_in _ lt_m0)) (va_eqt (hs _ (lw_fl fl_cs))) hA
  have z2 : ∃ fv : Value, fv.category = 1 ∧ va_Z "jdk/internal/util/Preconditions" "SIOOBE_FORMATTER" "Ljava/util/function/BiFunction;" fv (fun q => s.heap.size ≤ q) s s.heap := by
    rcases va_Zqof (hts _ (lt_in _ lt_n1)) (hts _ (lt_in _ lt_m1)) (hs _ (lw_fl fl_si)) hA with h | ⟨t, h⟩
    · exact ⟨.null, rfl, h⟩
    · exact ⟨.ref t, rfl, h⟩
  obtain ⟨fv, hfv, z2⟩ := z2
  refine ⟨fun k => if k = 0 then c0 else if k = 1 then c1 else if k = 2 then c2 else if k = 3 then c3 else c4, fun k => if k = 0 then i0 else if k = 1 then i1 else if k = 2 then i2 else if k = 3 then i3 else i4, fun k => if k = 0 then a0 else if k = 1 then a1 else a2, fv, fun i => if i < 2000 then aK (i - 1000) else if i < 3000 then aV (i - 2000) else t0, hfv, ⟨?_, ?_⟩, ?_⟩
  · intro k q hq
    match k, hq with
    | 0, hq => cases hq; exact K0
    | 1, hq => cases hq; exact K1
    | 2, hq => cases hq; exact K2
    | 3, hq => cases hq; exact K3
    | 4, hq => cases hq; exact K4
    | k + 5, hq => simp [vwCl] at hq
  · intro k q hq
    match k, hq with
    | 0, hq => cases hq; exact ⟨fun n z => ⟨fun k h => (by cases h), k0, g0, p0, q0⟩, f0⟩
    | 1, hq => cases hq; exact ⟨fun n z => ⟨fun k h => (by cases h), k1, g1, p1, q1⟩, f1⟩
    | 2, hq => cases hq; exact ⟨fun n z => ⟨fun k h => (by cases h), k2, g2, p2, q2⟩, ⟨k2, p2, g2, q2, e2, f2⟩⟩
    | k + 3, hq => simp [rv_tys] at hq
  · intro ad had
    have e1 : ∀ i, i < 14 → ad (1000 + i) = aK i := fun i hi => by
      rw [had _ (by omega)]
      dsimp only
      rw [if_pos (by omega), show 1000 + i - 1000 = i by omega]
    have e2 : ∀ i, i < 14 → ad (2000 + i) = aV i := fun i hi => by
      rw [had _ (by omega)]
      dsimp only
      rw [if_neg (by omega), if_pos (by omega), show 2000 + i - 2000 = i by omega]
    have e3 : ad 3000 = t0 := by
      rw [had _ (by omega)]
      dsimp only
      rw [if_neg (by omega), if_neg (by omega)]
    refine ⟨⟨hS.at e1 e2, ⟨by rw [e3]; exact z0, by rw [e3]; exact hT0⟩, z1, z2⟩, fun i q hq => ?_⟩
    have hi : i < 14 := (List.getElem?_eq_some_iff.mp hq).1
    have eq : rv_strW.getD i (0, "") = q := by rw [List.getD_eq_getElem?_getD, hq]; rfl
    have h1 := hts _ (lt_in _ (lt_str ⟨i, hi⟩))
    have h2 := hT i hi
    unfold lw_tm at h2
    simp only at h1
    rw [eq] at h1 h2
    rw [e1 i hi]
    exact vk_R.of h1 h2
