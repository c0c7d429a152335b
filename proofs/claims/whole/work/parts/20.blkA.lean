set_option maxRecDepth 100000 in
set_option maxHeartbeats 4000000 in
theorem ev_X0_isKind (n1 : Int32) (w : rv_W) : rv_EV 0 [.int n1] w = (bif rv_cnd .lt n1 0 then some (some (.int 0), w) else (bif rv_cnd .ge n1 7 then some (some (.int 0), w) else some (some (.int 1), w))) := by
  have e : rv_EV 0 [.int n1] w = rv_GO rc_X0_isKind 0 [some (.int n1)] [] w := by
    rfl
  rw [e, ← rv_blk_eq [] 9]
  rfl
set_option maxRecDepth 100000 in
set_option maxHeartbeats 4000000 in
theorem ev_X0_isUnder (n1 : Int32) (n2 : Int32) (w : rv_W) : rv_EV 1 [.int n1, .int n2] w = rv_GO rc_X0_isUnder 4 [none, some (.int n2), some (.int n1), some (.int 0)] [] w := by
  have e : rv_EV 1 [.int n1, .int n2] w = rv_GO rc_X0_isUnder 0 [some (.int n1), some (.int n2), none, none] [] w := by
    rfl
  rw [e, ← rv_blk_eq [4] 6]
  rfl
set_option maxRecDepth 100000 in
set_option maxHeartbeats 4000000 in
theorem bk_X0_isUnder_4 (v1 : Int32) (v2 : Int32) (v3 : Int32) (w : rv_W) : rv_GO rc_X0_isUnder 4 [none, some (.int v1), some (.int v2), some (.int v3)] [] w = (bif rv_cnd .ge v3 7 then some (some (.int 0), w) else ((rv_ri (rv_EV 0 [.int v2] w)).bind fun q1 => (bif rv_cnd .eq q1.1 0 then some (some (.int 0), q1.2) else (bif rv_cnd .ne v2 v1 then ((rv_ldI q1.2 3000 v2).bind fun x2 => rv_GO rc_X0_isUnder 4 [none, some (.int v1), some (.int x2), some (.int (v3 + 1))] [] q1.2) else some (some (.int 1), q1.2))))) := by
  rw [← rv_blk_eq [4] 17]
  rfl
set_option maxRecDepth 100000 in
set_option maxHeartbeats 4000000 in
theorem ev_X0_adds (n1 : Int32) (n2 : Int32) (n3 : Int32) (n4 : Int32) (w : rv_W) : rv_EV 2 [.int n1, .int n2, .int n3, .int n4] w = (bif rv_eq n1 (Int32.ofInt 1) then some (some (.int 128), w) else (bif rv_eq n1 (Int32.ofInt 2) then some (some (.int 32), w) else (bif rv_eq n1 (Int32.ofInt 3) then some (some (.int 8), w) else (bif rv_eq n1 (Int32.ofInt 4) then ((rv_ri (rv_EV 209 [.int n4] w)).bind fun q1 => some (some (.int (8 + q1.1)), q1.2)) else (bif rv_eq n1 (Int32.ofInt 5) then (bif rv_cnd .ne n3 0 then some (some (.int 0), w) else some (some (.int 64), w)) else (bif rv_eq n1 (Int32.ofInt 6) then some (some (.int (128 + n2)), w) else some (some (.int 64), w))))))) := by
  have e : rv_EV 2 [.int n1, .int n2, .int n3, .int n4] w = rv_GO rc_X0_adds 0 [some (.int n1), some (.int n2), some (.int n3), some (.int n4)] [] w := by
    rfl
  rw [e, ← rv_blk_eq [] 8]
  rfl
set_option maxRecDepth 100000 in
set_option maxHeartbeats 4000000 in
theorem ev_X0_cools (n1 : Int32) (w : rv_W) : rv_EV 3 [.int n1] w = (bif rv_eq n1 (Int32.ofInt 1) then some (some (.int 8), w) else (bif rv_eq n1 (Int32.ofInt 2) then some (some (.int 3), w) else (bif rv_eq n1 (Int32.ofInt 3) then some (some (.int 3), w) else (bif rv_eq n1 (Int32.ofInt 4) then some (some (.int 3), w) else (bif rv_eq n1 (Int32.ofInt 5) then some (some (.int 10), w) else (bif rv_eq n1 (Int32.ofInt 6) then some (some (.int 16), w) else some (some (.int 5), w))))))) := by
  have e : rv_EV 3 [.int n1] w = rv_GO rc_X0_cools 0 [some (.int n1)] [] w := by
    rfl
  rw [e, ← rv_blk_eq [] 5]
  rfl
set_option maxRecDepth 100000 in
set_option maxHeartbeats 4000000 in
theorem ev_X0_nose (n1 : Int32) (w : rv_W) : rv_EV 4 [.int n1] w = (bif rv_eq n1 (Int32.ofInt 2) then some (some (.int 50), w) else (bif rv_eq n1 (Int32.ofInt 3) then some (some (.int 30), w) else (bif rv_eq n1 (Int32.ofInt 4) then some (some (.int 10), w) else (bif rv_eq n1 (Int32.ofInt 5) then some (some (.int 400), w) else (bif rv_eq n1 (Int32.ofInt 6) then some (some (.int 300), w) else some (some (.int 100), w)))))) := by
  have e : rv_EV 4 [.int n1] w = rv_GO rc_X0_nose 0 [some (.int n1)] [] w := by
    rfl
  rw [e, ← rv_blk_eq [] 5]
  rfl
set_option maxRecDepth 100000 in
set_option maxHeartbeats 4000000 in
theorem ev_X1_begin (p : Nat) (n1 : Int32) (n2 : Int32) (w : rv_W) (hp : (rv_obj w p 0).isSome = true) : rv_EV 5 [.ref p, .int n1, .int n2] w = ((rv_stF w p 0 1 (.int n1)).bind fun w1 => ((rv_stF w1 p 0 2 (.int n2)).bind fun w2 => rv_GO rc_X1_begin 12 [some (.ref p), none, none, some (.int 0)] [] w2)) := by
  have e : rv_EV 5 [.ref p, .int n1, .int n2] w = rv_GO rc_X1_begin 0 [some (.ref p), some (.int n1), some (.int n2), none] [] w := by
    show cond ((rv_obj w p 0).isSome && true) _ _ = _
    rw [hp]
    rfl
  rw [e, ← rv_blk_eq [12] 10]
  rfl
set_option maxRecDepth 100000 in
set_option maxHeartbeats 4000000 in
theorem bk_X1_begin_12 (v0 : Nat) (v3 : Int32) (w : rv_W) : rv_GO rc_X1_begin 12 [some (.ref v0), none, none, some (.int v3)] [] w = (bif rv_cnd .ge v3 40 then some (none, w) else ((rv_ldFR w v0 0 0).bind fun a1 => ((rv_stI w a1 v3 0).bind fun w2 => rv_GO rc_X1_begin 12 [some (.ref v0), none, none, some (.int (v3 + 1))] [] w2))) := by
  rw [← rv_blk_eq [12] 12]
  rfl
set_option maxRecDepth 100000 in
set_option maxHeartbeats 4000000 in
theorem ev_X1_isMissing (p : Nat) (w : rv_W) (hp : (rv_obj w p 0).isSome = true) : rv_EV 6 [.ref p] w = ((rv_ldFI w p 0 1).bind fun x1 => (bif rv_cnd .ne x1 0 then some (some (.int 0), w) else some (some (.int 1), w))) := by
  have e : rv_EV 6 [.ref p] w = rv_GO rc_X1_isMissing 0 [some (.ref p)] [] w := by
    show cond ((rv_obj w p 0).isSome && true) _ _ = _
    rw [hp]
    rfl
  rw [e, ← rv_blk_eq [] 7]
  rfl
set_option maxRecDepth 100000 in
set_option maxHeartbeats 4000000 in
theorem ev_X1_hasSpan (p : Nat) (n1 : Int32) (n2 : Int32) (w : rv_W) (hp : (rv_obj w p 0).isSome = true) : rv_EV 7 [.ref p, .int n1, .int n2] w = (bif rv_cnd .lt n1 0 then some (some (.int 0), w) else (bif rv_cnd .lt n2 0 then some (some (.int 0), w) else ((rv_ldFI w p 0 2).bind fun x1 => (bif rv_cnd .gt n2 x1 then some (some (.int 0), w) else ((rv_ldFI w p 0 2).bind fun x2 => (bif rv_cnd .gt n1 (x2 - n2) then some (some (.int 0), w) else some (some (.int 1), w))))))) := by
  have e : rv_EV 7 [.ref p, .int n1, .int n2] w = rv_GO rc_X1_hasSpan 0 [some (.ref p), some (.int n1), some (.int n2)] [] w := by
    show cond ((rv_obj w p 0).isSome && true) _ _ = _
    rw [hp]
    rfl
  rw [e, ← rv_blk_eq [] 18]
  rfl
set_option maxRecDepth 100000 in
set_option maxHeartbeats 4000000 in
theorem ev_X1_put (p : Nat) (n1 : Int32) (n2 : Int32) (w : rv_W) (hp : (rv_obj w p 0).isSome = true) : rv_EV 8 [.ref p, .int n1, .int n2] w = ((rv_ldFI w p 0 1).bind fun x1 => (bif rv_eq x1 (Int32.ofInt 8) then ((rv_ldFR w p 0 0).bind fun a6 => ((rv_stI w a6 n1 n2.toInt8.toInt32).bind fun w7 => some (none, w7))) else (bif rv_eq x1 (Int32.ofInt 16) then ((rv_ldFR w p 0 0).bind fun a4 => ((rv_stI w a4 n1 n2.toInt16.toInt32).bind fun w5 => some (none, w5))) else ((rv_ldFR w p 0 0).bind fun a2 => ((rv_stI w a2 n1 n2).bind fun w3 => some (none, w3)))))) := by
  have e : rv_EV 8 [.ref p, .int n1, .int n2] w = rv_GO rc_X1_put 0 [some (.ref p), some (.int n1), some (.int n2)] [] w := by
    show cond ((rv_obj w p 0).isSome && true) _ _ = _
    rw [hp]
    rfl
  rw [e, ← rv_blk_eq [] 12]
  rfl
set_option maxRecDepth 100000 in
set_option maxHeartbeats 4000000 in
theorem ev_J6_bitCount_0f7a4 (n1 : Int32) (w : rv_W) : rv_EV 209 [.int n1] w = some (some (.int ((((((((n1 - ((Int32.toUInt32 n1 >>> (Int32.toUInt32 1 &&& Int32.toUInt32 31)).toInt32 &&& 1431655765)) &&& 858993459) + ((Int32.toUInt32 (n1 - ((Int32.toUInt32 n1 >>> (Int32.toUInt32 1 &&& Int32.toUInt32 31)).toInt32 &&& 1431655765)) >>> (Int32.toUInt32 2 &&& Int32.toUInt32 31)).toInt32 &&& 858993459)) + (Int32.toUInt32 (((n1 - ((Int32.toUInt32 n1 >>> (Int32.toUInt32 1 &&& Int32.toUInt32 31)).toInt32 &&& 1431655765)) &&& 858993459) + ((Int32.toUInt32 (n1 - ((Int32.toUInt32 n1 >>> (Int32.toUInt32 1 &&& Int32.toUInt32 31)).toInt32 &&& 1431655765)) >>> (Int32.toUInt32 2 &&& Int32.toUInt32 31)).toInt32 &&& 858993459)) >>> (Int32.toUInt32 4 &&& Int32.toUInt32 31)).toInt32) &&& 252645135) + (Int32.toUInt32 (((((n1 - ((Int32.toUInt32 n1 >>> (Int32.toUInt32 1 &&& Int32.toUInt32 31)).toInt32 &&& 1431655765)) &&& 858993459) + ((Int32.toUInt32 (n1 - ((Int32.toUInt32 n1 >>> (Int32.toUInt32 1 &&& Int32.toUInt32 31)).toInt32 &&& 1431655765)) >>> (Int32.toUInt32 2 &&& Int32.toUInt32 31)).toInt32 &&& 858993459)) + (Int32.toUInt32 (((n1 - ((Int32.toUInt32 n1 >>> (Int32.toUInt32 1 &&& Int32.toUInt32 31)).toInt32 &&& 1431655765)) &&& 858993459) + ((Int32.toUInt32 (n1 - ((Int32.toUInt32 n1 >>> (Int32.toUInt32 1 &&& Int32.toUInt32 31)).toInt32 &&& 1431655765)) >>> (Int32.toUInt32 2 &&& Int32.toUInt32 31)).toInt32 &&& 858993459)) >>> (Int32.toUInt32 4 &&& Int32.toUInt32 31)).toInt32) &&& 252645135) >>> (Int32.toUInt32 8 &&& Int32.toUInt32 31)).toInt32) + (Int32.toUInt32 ((((((n1 - ((Int32.toUInt32 n1 >>> (Int32.toUInt32 1 &&& Int32.toUInt32 31)).toInt32 &&& 1431655765)) &&& 858993459) + ((Int32.toUInt32 (n1 - ((Int32.toUInt32 n1 >>> (Int32.toUInt32 1 &&& Int32.toUInt32 31)).toInt32 &&& 1431655765)) >>> (Int32.toUInt32 2 &&& Int32.toUInt32 31)).toInt32 &&& 858993459)) + (Int32.toUInt32 (((n1 - ((Int32.toUInt32 n1 >>> (Int32.toUInt32 1 &&& Int32.toUInt32 31)).toInt32 &&& 1431655765)) &&& 858993459) + ((Int32.toUInt32 (n1 - ((Int32.toUInt32 n1 >>> (Int32.toUInt32 1 &&& Int32.toUInt32 31)).toInt32 &&& 1431655765)) >>> (Int32.toUInt32 2 &&& Int32.toUInt32 31)).toInt32 &&& 858993459)) >>> (Int32.toUInt32 4 &&& Int32.toUInt32 31)).toInt32) &&& 252645135) + (Int32.toUInt32 (((((n1 - ((Int32.toUInt32 n1 >>> (Int32.toUInt32 1 &&& Int32.toUInt32 31)).toInt32 &&& 1431655765)) &&& 858993459) + ((Int32.toUInt32 (n1 - ((Int32.toUInt32 n1 >>> (Int32.toUInt32 1 &&& Int32.toUInt32 31)).toInt32 &&& 1431655765)) >>> (Int32.toUInt32 2 &&& Int32.toUInt32 31)).toInt32 &&& 858993459)) + (Int32.toUInt32 (((n1 - ((Int32.toUInt32 n1 >>> (Int32.toUInt32 1 &&& Int32.toUInt32 31)).toInt32 &&& 1431655765)) &&& 858993459) + ((Int32.toUInt32 (n1 - ((Int32.toUInt32 n1 >>> (Int32.toUInt32 1 &&& Int32.toUInt32 31)).toInt32 &&& 1431655765)) >>> (Int32.toUInt32 2 &&& Int32.toUInt32 31)).toInt32 &&& 858993459)) >>> (Int32.toUInt32 4 &&& Int32.toUInt32 31)).toInt32) &&& 252645135) >>> (Int32.toUInt32 8 &&& Int32.toUInt32 31)).toInt32) >>> (Int32.toUInt32 16 &&& Int32.toUInt32 31)).toInt32) &&& 63)), w) := by
  have e : rv_EV 209 [.int n1] w = rv_GO rc_J6_bitCount_0f7a4 0 [some (.int n1)] [] w := by
    rfl
  rw [e, ← rv_blk_eq [] 43]
  rfl
set_option maxRecDepth 100000 in
set_option maxHeartbeats 4000000 in
theorem ev_J0_length_8abf5 (p : Nat) (w : rv_W) (hp : (decide (1000 ≤ p) && decide (p < 1014)) = true) : rv_EV 210 [.ref p] w = (bif Nat.ble 1000 p && Nat.ble p 1013 then ((rv_len w (1000 + p)).bind fun x1 => ((rv_ri (rv_EV 212 [.ref p] w)).bind fun q2 => some (some (.int (x1 >>> (q2.1 &&& 31))), q2.2))) else none) := by
  have e : rv_EV 210 [.ref p] w = rv_GO rc_J0_length_8abf5 0 [some (.ref p)] [] w := by
    show cond ((decide (1000 ≤ p) && decide (p < 1014)) && true) _ _ = _
    rw [hp]
    rfl
  rw [e, ← rv_blk_eq [] 8]
  rfl
set_option maxRecDepth 100000 in
set_option maxHeartbeats 4000000 in
theorem ev_J0_charAt_5068e (p : Nat) (n1 : Int32) (w : rv_W) (hp : (decide (1000 ≤ p) && decide (p < 1014)) = true) : rv_EV 211 [.ref p, .int n1] w = ((rv_ri (rv_EV 213 [.ref p] w)).bind fun q1 => (bif rv_cnd .eq q1.1 0 then none else (bif Nat.ble 1000 p && Nat.ble p 1013 then ((rv_ri (rv_EV 215 [.ref (1000 + p), .int n1] q1.2)).bind fun q2 => (bif rv_ch q2.1 then some (some (.int q2.1), q2.2) else none)) else none))) := by
  have e : rv_EV 211 [.ref p, .int n1] w = rv_GO rc_J0_charAt_5068e 0 [some (.ref p), some (.int n1)] [] w := by
    show cond ((decide (1000 ≤ p) && decide (p < 1014)) && true) _ _ = _
    rw [hp]
    rfl
  rw [e, ← rv_blk_eq [] 9]
  rfl
set_option maxRecDepth 100000 in
set_option maxHeartbeats 4000000 in
theorem ev_J0_coder_7d493 (p : Nat) (w : rv_W) (hp : (decide (1000 ≤ p) && decide (p < 1014)) = true) : rv_EV 212 [.ref p] w = (bif rv_cnd .eq 1 0 then none else (bif Nat.ble 1000 p && Nat.ble p 1013 then some (some (.int 0), w) else none)) := by
  have e : rv_EV 212 [.ref p] w = rv_GO rc_J0_coder_7d493 0 [some (.ref p)] [] w := by
    show cond ((decide (1000 ≤ p) && decide (p < 1014)) && true) _ _ = _
    rw [hp]
    rfl
  rw [e, ← rv_blk_eq [] 7]
  rfl
set_option maxRecDepth 100000 in
set_option maxHeartbeats 4000000 in
theorem ev_J0_isLatin1_aae02 (p : Nat) (w : rv_W) (hp : (decide (1000 ≤ p) && decide (p < 1014)) = true) : rv_EV 213 [.ref p] w = (bif rv_cnd .eq 1 0 then some (some (.int 0), w) else (bif Nat.ble 1000 p && Nat.ble p 1013 then (bif rv_cnd .ne 0 0 then some (some (.int 0), w) else some (some (.int 1), w)) else none)) := by
  have e : rv_EV 213 [.ref p] w = rv_GO rc_J0_isLatin1_aae02 0 [some (.ref p)] [] w := by
    show cond ((decide (1000 ≤ p) && decide (p < 1014)) && true) _ _ = _
    rw [hp]
    rfl
  rw [e, ← rv_blk_eq [] 9]
  rfl
set_option maxRecDepth 100000 in
set_option maxHeartbeats 4000000 in
theorem ev_J0_checkIndex_df160 (n1 : Int32) (n2 : Int32) (w : rv_W) : rv_EV 214 [.int n1, .int n2] w = ((rv_ri (rv_EV 216 [.int n1, .int n2, .retAddr 0] w)).bind fun q1 => some (none, q1.2)) := by
  have e : rv_EV 214 [.int n1, .int n2] w = rv_GO rc_J0_checkIndex_df160 0 [some (.int n1), some (.int n2)] [] w := by
    rfl
  rw [e, ← rv_blk_eq [] 7]
  rfl
set_option maxRecDepth 100000 in
set_option maxHeartbeats 4000000 in
theorem ev_J1_charAt_3b067 (n1 : Nat) (n2 : Int32) (w : rv_W) : rv_EV 215 [.ref n1, .int n2] w = ((rv_len w n1).bind fun x1 => ((rv_rv (rv_EV 214 [.int n2, .int x1] w)).bind fun q2 => ((rv_ldB q2 n1 n2).bind fun x3 => (bif rv_ch ((x3 &&& 255).toUInt32 % 65536).toInt32 then some (some (.int ((x3 &&& 255).toUInt32 % 65536).toInt32), q2) else none)))) := by
  have e : rv_EV 215 [.ref n1, .int n2] w = rv_GO rc_J1_charAt_3b067 0 [some (.ref n1), some (.int n2)] [] w := by
    rfl
  rw [e, ← rv_blk_eq [] 12]
  rfl
set_option maxRecDepth 100000 in
set_option maxHeartbeats 4000000 in
theorem ev_J3_checkIndex_8e157 (n1 : Int32) (n2 : Int32) (n3 : Nat) (w : rv_W) : rv_EV 216 [.int n1, .int n2, .retAddr n3] w = (bif rv_cnd .lt n1 0 then none else (bif rv_cnd .lt n1 n2 then some (some (.int n1), w) else none)) := by
  have e : rv_EV 216 [.int n1, .int n2, .retAddr n3] w = rv_GO rc_J3_checkIndex_8e157 0 [some (.int n1), some (.int n2), some (.retAddr n3)] [] w := by
    rfl
  rw [e, ← rv_blk_eq [] 8]
  rfl
