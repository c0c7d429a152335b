/-! WHAT IS CHECKED of the printed tables, once, by the kernel -/
def rv_w (i : Nat) (w : Jvm.Cond) : Bool := decide (lw_tbl[i]? = some w) && goodWord w
def rv_T : List Jvm.Cond := lw_tbl.filter goodWord
theorem rv_w_in {i : Nat} {w : Jvm.Cond} (h : rv_w i w = true) : w ∈ rv_T := by
  simp only [rv_w, Bool.and_eq_true, decide_eq_true_eq] at h
  exact List.mem_filter.mpr ⟨List.mem_of_getElem? h.1, h.2⟩
def rv_ln : Jvm.ClassFile.Instr → Nat → Nat
  | .bipush _, _ => 2
  | .ldc _, _ => 2
  | .iload _, _ => 2
  | .lload _, _ => 2
  | .aload _, _ => 2
  | .istore _, _ => 2
  | .lstore _, _ => 2
  | .astore _, _ => 2
  | .sipush _, _ => 3
  | .ldc_w _, _ => 3
  | .ldc2_w _, _ => 3
  | .iinc _ _, _ => 3
  | .ifCond _ _, _ => 3
  | .if_icmp _ _, _ => 3
  | .goto _, _ => 3
  | .getfield _, _ => 3
  | .putfield _, _ => 3
  | .getstatic _, _ => 3
  | .invokevirtual _, _ => 3
  | .invokestatic _, _ => 3
  | .tableswitch _ _ _ _, n => n
  | .lookupswitch _ _, n => n
  | _, _ => 1
def rv_tg (pc : Nat) (off : Int) : Bool := decide (0 ≤ (pc : Int) + off)
def rv_fl (own : String) (i a b pos : Nat) : Bool := match vwCl[a]? with
  | some q => decide (b / 10 < q.2.2) && rv_w pos (.fieldLink own i (q.2.1 (b / 10)).1 (q.2.1 (b / 10)).2.1 (q.2.1 (b / 10)).2.2.1)
  | none => false
def rv_fp (a b : Nat) (ty : FieldType) : Bool := match vwCl[a]? with
  | some q => decide ((q.2.1 (b / 10)).2.2.2 = false) && decide (parseFieldDescriptor (q.2.1 (b / 10)).2.2.1 = some ty)
  | none => false
def rv_cl (M : rv_M) (i a pos n : Nat) : Bool := match rv_ms[a]? with
  | some M' => rv_w pos (.methodLink M.1.cls i M'.1) && decide ((parseMethodDescriptor M'.1.desc).map (fun d => d.parameters.length) = some n) && decide (M'.2.2.2.2.2.1 + 1 ≤ M.2.2.2.2.2.1) && decide (8 + (M'.2.2.1 + 11) + M'.2.2.2.2.2.2.1 ≤ M.2.2.2.2.2.2.1)
  | none => false
def rv_cs (a : Nat) (st : Bool) : Bool := match rv_ms[a]? with
  | some M' => decide ((Nat.beq M'.2.2.2.2.1 99) = st)
  | none => false
def rv_okJ (M : rv_M) (pc a b pos : Nat) (c : Int32) : Jvm.ClassFile.Instr → Bool
  | .iconst n => decide (Int32.ofInt n = c)
  | .bipush n => decide ((Int8.ofInt n).toInt32 = c)
  | .sipush n => decide ((Int16.ofInt n).toInt32 = c)
  | .ldc i => cond (Nat.beq a 0) (rv_w pos (.constant M.1.cls i c)) (decide ((rv_strW[b]?).map (fun q => q.1) = some i) && decide (M.1.cls = "TubSteps$TextReader"))
  | .ldc_w i => rv_w pos (.constant M.1.cls i c)
  | .ldc2_w i => rv_w pos (.constantLong M.1.cls i c.toInt64)
  | .lconst n => decide (Int64.ofNat n.val = c.toInt64)
  | .istore i => decide (i < M.2.2.1)
  | .istore_n i => decide (i.val < M.2.2.1)
  | .astore i => decide (i < M.2.2.1)
  | .astore_n i => decide (i.val < M.2.2.1)
  | .lstore i => decide (i + 1 < M.2.2.1)
  | .lstore_n i => decide (i.val + 1 < M.2.2.1)
  | .iinc i n => decide (Int32.ofInt n = c) && decide (i < M.2.2.1)
  | .ifCond _ off => rv_tg pc off
  | .if_icmp _ off => rv_tg pc off
  | .goto off => rv_tg pc off
  | .tableswitch d lo hi offs => decide (hi = lo + (offs.toList.length : Int) - 1) && rv_tg pc d && offs.toList.all (rv_tg pc) && decide (-1000 ≤ lo) && decide (hi ≤ 1000)
  | .lookupswitch d ps => (ps.toList.zip (ps.toList.drop 1)).all (fun (a, next) => a.1 < next.1) && rv_tg pc d && ps.toList.all (fun q => rv_tg pc q.2 && decide (-1000 ≤ q.1) && decide (q.1 ≤ 1000))
  | .getfield i => cond (Nat.beq (b % 10) 4) (rv_w pos (.fieldLink M.1.cls i "java/lang/String" "value" "[B")) (cond (Nat.beq (b % 10) 5) (rv_w pos (.fieldLink M.1.cls i "java/lang/String" "coder" "B")) (rv_fl M.1.cls i a b pos && (Nat.beq (b % 10) 1 || Nat.beq (b % 10) 3)))
  | .putfield i => rv_fl M.1.cls i a b pos && cond (Nat.beq (b % 10) 3) (rv_fp a b (.array .byte)) (cond (Nat.beq (b % 10) 2) (rv_fp a b .boolean) (rv_fp a b .int))
  | .getstatic i => cond (Nat.beq a 0) (rv_w pos (.fieldLink M.1.cls i "TubSteps$Kinds" "ABOVE" "[I")) (cond (Nat.beq a 1) (rv_w pos (.fieldLink M.1.cls i "java/lang/String" "COMPACT_STRINGS" "Z")) (rv_w pos (.fieldLink M.1.cls i "jdk/internal/util/Preconditions" "SIOOBE_FORMATTER" "Ljava/util/function/BiFunction;")))
  | .invokevirtual i => rv_cl M i a pos (b / 4 - 1) && rv_cs a false && decide (0 < b / 4)
  | .invokestatic i => cond (Nat.beq a 9999) (rv_w pos (.methodLink M.1.cls i arraycopyName) && decide (1 ≤ M.2.2.2.2.2.1) && decide (8 + (nativeFrameWords "java/lang/System" "arraycopy" 5 + 11) ≤ M.2.2.2.2.2.2.1)) (cond (Nat.beq a 9998) (rv_w pos (.methodLink M.1.cls i Lib.Math.max.name) && decide (1 ≤ M.2.2.2.2.2.1) && decide (21 ≤ M.2.2.2.2.2.2.1)) (cond (Nat.beq a 9997) (rv_w pos (.methodLink M.1.cls i Lib.Math.min.name) && decide (1 ≤ M.2.2.2.2.2.1) && decide (21 ≤ M.2.2.2.2.2.2.1)) (rv_cl M i a pos (b / 4) && rv_cs a true)))
  | .ireturn => decide (M.2.2.2.1 = some (cond (Nat.beq a 0) FieldType.int (cond (Nat.beq a 1) FieldType.boolean (cond (Nat.beq a 2) FieldType.byte FieldType.char))))
  | .lreturn => decide (M.2.2.2.1 = some .long)
  | .areturn => decide (M.2.2.2.1 = some (.array .int)) || decide (M.2.2.2.1 = some (.object "java/lang/String"))
  | .return_ => decide (M.2.2.2.1 = none)
  | _ => true
def rv_okI (M : rv_M) (pc : Nat) (x : rv_I) : Bool := decide (decode M.2.1 pc = .ok (x.1, rv_ln x.1 x.2.1)) && rv_okJ M pc x.2.2.1 x.2.2.2.1 x.2.2.2.2.1 x.2.2.2.2.2.1 x.1
def rv_okC (M : rv_M) : Bool := match M.2.2.2.2.1 with
  | 99 => true
  | 98 => decide (M.1.cls = "java/lang/String")
  | ci => decide ((vwCl[ci]?).map (fun q => q.1) = some M.1.cls)
def rv_okM (M : rv_M) (q : Nat × Nat × Nat × Nat) : Bool :=
  rv_w q.1 (.code M.1 M.2.1 M.2.2.1 M.2.2.2.1) && rv_w q.2.1 (.initialized M.1.cls) && cond (Nat.beq M.2.2.2.2.1 99) (rv_w q.2.2.1 (.static M.1)) (rv_w q.2.2.1 (.instanceMethod M.1) && rv_w q.2.2.2 (.selects M.1.cls M.1 M.1)) &&
  rv_okC M && (decide (M.1.cls ≠ "java/lang/invoke/MethodHandle") && decide (M.1.cls ≠ "java/lang/invoke/VarHandle")) && plainName M.1.cls && M.2.2.2.2.2.2.2.all (fun q => rv_okI M q.1 q.2)
def rv_ntw : List Jvm.Cond := [.native arraycopyName, .static arraycopyName, .initialized "java/lang/System", .static Lib.Math.max.name, .static Lib.Math.min.name, .initialized "java/lang/Math", .code Lib.Math.max.name Lib.Math.max.code 2 (some .int), .code Lib.Math.min.name Lib.Math.min.code 2 (some .int)]
theorem rv_nat_in : ∀ w ∈ rv_ntw, w ∈ rv_T := by
  have h : (rv_ntw.zip rv_nt).all (fun q => rv_w q.2 q.1) = true := by decide +kernel
  have g : rv_ntw.length = rv_nt.length := by decide +kernel
  intro w hw
  obtain ⟨i, hi⟩ := List.getElem?_of_mem hw
  obtain ⟨hil, -⟩ := List.getElem?_eq_some_iff.mp hi
  have hv : rv_nt[i]? = some (rv_nt[i]'(by rw [← g]; exact hil)) := List.getElem?_eq_getElem _
  exact rv_w_in (List.all_eq_true.mp h (w, rv_nt[i]'(by rw [← g]; exact hil)) (List.mem_of_getElem? (i := i) (by rw [List.getElem?_zip_eq_some]; exact ⟨hi, hv⟩)))
theorem rv_cl_in : ∀ (ci : Nat) (q : vw_C), vwCl[ci]? = some q → ∀ w ∈ u_ws q.1 q.2.1 q.2.2, w ∈ rv_T := by
  have h : (vwCl.zip rv_fw).all (fun q => ((u_ws q.1.1 q.1.2.1 q.1.2.2).zip q.2).all (fun r => rv_w r.2 r.1) && decide ((u_ws q.1.1 q.1.2.1 q.1.2.2).length = q.2.length)) = true := by decide +kernel
  have g : rv_fw.length = vwCl.length := by decide +kernel
  intro ci q hq w hw
  obtain ⟨hl, hqe⟩ := List.getElem?_eq_some_iff.mp hq
  have hf : rv_fw[ci]? = some (rv_fw[ci]'(by rw [g]; exact hl)) := List.getElem?_eq_getElem _
  have hz : (q, rv_fw[ci]'(by rw [g]; exact hl)) ∈ vwCl.zip rv_fw := List.mem_of_getElem? (i := ci) (by rw [List.getElem?_zip_eq_some]; exact ⟨hq, hf⟩)
  have h1 := List.all_eq_true.mp h _ hz
  simp only [Bool.and_eq_true, decide_eq_true_eq] at h1
  obtain ⟨i, hi⟩ := List.getElem?_of_mem hw
  obtain ⟨hil, -⟩ := List.getElem?_eq_some_iff.mp hi
  have hv : (rv_fw[ci]'(by rw [g]; exact hl))[i]? = some ((rv_fw[ci]'(by rw [g]; exact hl))[i]'(by rw [← h1.2]; exact hil)) := List.getElem?_eq_getElem _
  have h2 := List.all_eq_true.mp h1.1 (w, (rv_fw[ci]'(by rw [g]; exact hl))[i]'(by rw [← h1.2]; exact hil)) (List.mem_of_getElem? (i := i) (by rw [List.getElem?_zip_eq_some]; exact ⟨hi, hv⟩))
  exact rv_w_in h2
