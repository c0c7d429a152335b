set_option maxRecDepth 100000 in
set_option maxHeartbeats 4000000 in
theorem ev_X2_take (p : Nat) (n1 : Nat) (w : rv_W) (hp : (rv_obj w p 1).isSome = true) : rv_EV 9 [.ref p, .ref n1] w = ((rv_ldFR w n1 1 0).bind fun a1 => ((rv_ldFR w p 1 0).bind fun a2 => ((rv_cpy w a1 0 a2 0 10).bind fun w3 => ((rv_ldFR w3 n1 1 1).bind fun a4 => ((rv_ldFR w3 p 1 1).bind fun a5 => ((rv_cpy w3 a4 0 a5 0 40).bind fun w6 => ((rv_ldFR w6 n1 1 2).bind fun a7 => ((rv_ldFR w6 p 1 2).bind fun a8 => ((rv_cpy w6 a7 0 a8 0 8).bind fun w9 => ((rv_ldFR w9 n1 1 3).bind fun a10 => ((rv_ldFR w9 p 1 3).bind fun a11 => ((rv_cpy w9 a10 0 a11 0 8).bind fun w12 => ((rv_ldFR w12 n1 1 4).bind fun a13 => ((rv_ldFR w12 p 1 4).bind fun a14 => ((rv_cpy w12 a13 0 a14 0 8).bind fun w15 => ((rv_ldFR w15 n1 1 5).bind fun a16 => ((rv_ldFR w15 p 1 5).bind fun a17 => ((rv_cpy w15 a16 0 a17 0 8).bind fun w18 => ((rv_ldFR w18 n1 1 6).bind fun a19 => ((rv_ldFR w18 p 1 6).bind fun a20 => ((rv_cpy w18 a19 0 a20 0 10).bind fun w21 => ((rv_ldFI w21 n1 1 7).bind fun x22 => ((rv_stF w21 p 1 7 (.int x22)).bind fun w23 => ((rv_ldFI w23 n1 1 8).bind fun x24 => ((rv_stF w23 p 1 8 (.int x24)).bind fun w25 => ((rv_ldFI w25 n1 1 9).bind fun x26 => ((rv_stF w25 p 1 9 (.int x26)).bind fun w27 => ((rv_ldFI w27 n1 1 10).bind fun x28 => ((rv_stF w27 p 1 10 (.int x28)).bind fun w29 => ((rv_ldFI w29 n1 1 11).bind fun x30 => ((rv_stF w29 p 1 11 (.int x30)).bind fun w31 => some (none, w31)))))))))))))))))))))))))))))))) := by
  have e : rv_EV 9 [.ref p, .ref n1] w = rv_GO rc_X2_take 0 [some (.ref p), some (.ref n1)] [] w := by
    show cond ((rv_obj w p 1).isSome && true) _ _ = _
    rw [hp]
    rfl
  rw [e, ← rv_blk_eq [] 78]
  rfl
set_option maxRecDepth 100000 in
set_option maxHeartbeats 4000000 in
theorem ev_X2_hasBather (p : Nat) (n1 : Int32) (w : rv_W) (hp : (rv_obj w p 1).isSome = true) : rv_EV 10 [.ref p, .int n1] w = (bif rv_cnd .lt n1 0 then some (some (.int 0), w) else ((rv_ldFI w p 1 7).bind fun x1 => (bif rv_cnd .ge n1 x1 then some (some (.int 0), w) else some (some (.int 1), w)))) := by
  have e : rv_EV 10 [.ref p, .int n1] w = rv_GO rc_X2_hasBather 0 [some (.ref p), some (.int n1)] [] w := by
    show cond ((rv_obj w p 1).isSome && true) _ _ = _
    rw [hp]
    rfl
  rw [e, ← rv_blk_eq [] 10]
  rfl
set_option maxRecDepth 100000 in
set_option maxHeartbeats 4000000 in
theorem ev_X2_isFull (p : Nat) (w : rv_W) (hp : (rv_obj w p 1).isSome = true) : rv_EV 11 [.ref p] w = ((rv_ldFI w p 1 7).bind fun x1 => (bif rv_cnd .lt x1 8 then some (some (.int 0), w) else some (some (.int 1), w))) := by
  have e : rv_EV 11 [.ref p] w = rv_GO rc_X2_isFull 0 [some (.ref p)] [] w := by
    show cond ((rv_obj w p 1).isSome && true) _ _ = _
    rw [hp]
    rfl
  rw [e, ← rv_blk_eq [] 8]
  rfl
set_option maxRecDepth 100000 in
set_option maxHeartbeats 4000000 in
theorem ev_X2_addBather (p : Nat) (n1 : Int32) (n2 : Int32) (n3 : Int32) (n4 : Int32) (w : rv_W) (hp : (rv_obj w p 1).isSome = true) : rv_EV 12 [.ref p, .int n1, .int n2, .int n3, .int n4] w = ((rv_ldFI w p 1 7).bind fun x1 => ((rv_ldFR w p 1 2).bind fun a2 => ((rv_stI w a2 x1 n1).bind fun w3 => ((rv_ldFR w3 p 1 3).bind fun a4 => ((rv_stI w3 a4 x1 n2).bind fun w5 => ((rv_ldFR w5 p 1 4).bind fun a6 => ((rv_stI w5 a6 x1 n3).bind fun w7 => ((rv_ldFR w7 p 1 5).bind fun a8 => ((rv_stI w7 a8 x1 n4).bind fun w9 => ((rv_ldFI w9 p 1 7).bind fun x10 => ((rv_stF w9 p 1 7 (.int (x10 + 1))).bind fun w11 => some (some (.int x1), w11)))))))))))) := by
  have e : rv_EV 12 [.ref p, .int n1, .int n2, .int n3, .int n4] w = rv_GO rc_X2_addBather 0 [some (.ref p), some (.int n1), some (.int n2), some (.int n3), some (.int n4), none] [] w := by
    show cond ((rv_obj w p 1).isSome && true) _ _ = _
    rw [hp]
    rfl
  rw [e, ← rv_blk_eq [] 32]
  rfl
set_option maxRecDepth 100000 in
set_option maxHeartbeats 4000000 in
theorem ev_X2_rowOf (p : Nat) (n1 : Int32) (w : rv_W) (hp : (rv_obj w p 1).isSome = true) : rv_EV 13 [.ref p, .int n1] w = (bif rv_eq n1 (Int32.ofInt 0) then ((rv_ldFR w p 1 2).bind fun a4 => some (some (.ref a4), w)) else (bif rv_eq n1 (Int32.ofInt 1) then ((rv_ldFR w p 1 3).bind fun a3 => some (some (.ref a3), w)) else (bif rv_eq n1 (Int32.ofInt 2) then ((rv_ldFR w p 1 4).bind fun a2 => some (some (.ref a2), w)) else ((rv_ldFR w p 1 5).bind fun a1 => some (some (.ref a1), w))))) := by
  have e : rv_EV 13 [.ref p, .int n1] w = rv_GO rc_X2_rowOf 0 [some (.ref p), some (.int n1)] [] w := by
    show cond ((rv_obj w p 1).isSome && true) _ _ = _
    rw [hp]
    rfl
  rw [e, ← rv_blk_eq [] 6]
  rfl
set_option maxRecDepth 100000 in
set_option maxHeartbeats 4000000 in
theorem ev_X2_changePlaces (p : Nat) (n1 : Int32) (n2 : Int32) (w : rv_W) (hp : (rv_obj w p 1).isSome = true) : rv_EV 14 [.ref p, .int n1, .int n2] w = ((rv_ldFR w p 1 3).bind fun a1 => ((rv_ldI w a1 n1).bind fun x2 => ((rv_ldFR w p 1 3).bind fun a3 => ((rv_ldFR w p 1 3).bind fun a4 => ((rv_ldI w a4 n2).bind fun x5 => ((rv_stI w a3 n1 x5).bind fun w6 => ((rv_ldFR w6 p 1 3).bind fun a7 => ((rv_stI w6 a7 n2 x2).bind fun w8 => some (none, w8))))))))) := by
  have e : rv_EV 14 [.ref p, .int n1, .int n2] w = rv_GO rc_X2_changePlaces 0 [some (.ref p), some (.int n1), some (.int n2), none] [] w := by
    show cond ((rv_obj w p 1).isSome && true) _ _ = _
    rw [hp]
    rfl
  rw [e, ← rv_blk_eq [] 20]
  rfl
set_option maxRecDepth 100000 in
set_option maxHeartbeats 4000000 in
theorem ev_X2_scentIn (p : Nat) (n1 : Int32) (n2 : Int32) (w : rv_W) (hp : (rv_obj w p 1).isSome = true) : rv_EV 15 [.ref p, .int n1, .int n2] w = ((rv_ldFR w p 1 1).bind fun a1 => ((rv_ldI w a1 ((n1 * 4) + n2)).bind fun x2 => some (some (.int x2), w))) := by
  have e : rv_EV 15 [.ref p, .int n1, .int n2] w = rv_GO rc_X2_scentIn 0 [some (.ref p), some (.int n1), some (.int n2)] [] w := by
    show cond ((rv_obj w p 1).isSome && true) _ _ = _
    rw [hp]
    rfl
  rw [e, ← rv_blk_eq [] 10]
  rfl
set_option maxRecDepth 100000 in
set_option maxHeartbeats 4000000 in
theorem ev_X2_setScent (p : Nat) (n1 : Int32) (n2 : Int32) (n3 : Int32) (w : rv_W) (hp : (rv_obj w p 1).isSome = true) : rv_EV 16 [.ref p, .int n1, .int n2, .int n3] w = ((rv_ldFR w p 1 1).bind fun a1 => ((rv_stI w a1 ((n1 * 4) + n2) n3).bind fun w2 => some (none, w2))) := by
  have e : rv_EV 16 [.ref p, .int n1, .int n2, .int n3] w = rv_GO rc_X2_setScent 0 [some (.ref p), some (.int n1), some (.int n2), some (.int n3)] [] w := by
    show cond ((rv_obj w p 1).isSome && true) _ _ = _
    rw [hp]
    rfl
  rw [e, ← rv_blk_eq [] 11]
  rfl
set_option maxRecDepth 100000 in
set_option maxHeartbeats 4000000 in
theorem ev_X2_scentsIn (p : Nat) (n1 : Int32) (w : rv_W) (hp : (rv_obj w p 1).isSome = true) : rv_EV 17 [.ref p, .int n1] w = rv_GO rc_X2_scentsIn 4 [some (.ref p), some (.int n1), some (.int 0), some (.int 0)] [] w := by
  have e : rv_EV 17 [.ref p, .int n1] w = rv_GO rc_X2_scentsIn 0 [some (.ref p), some (.int n1), none, none] [] w := by
    show cond ((rv_obj w p 1).isSome && true) _ _ = _
    rw [hp]
    rfl
  rw [e, ← rv_blk_eq [4] 6]
  rfl
set_option maxRecDepth 100000 in
set_option maxHeartbeats 4000000 in
theorem bk_X2_scentsIn_4 (v0 : Nat) (v1 : Int32) (v2 : Int32) (v3 : Int32) (w : rv_W) : rv_GO rc_X2_scentsIn 4 [some (.ref v0), some (.int v1), some (.int v2), some (.int v3)] [] w = (bif rv_cnd .ge v3 4 then some (some (.int v2), w) else ((rv_ri (rv_EV 15 [.ref v0, .int v1, .int v3] w)).bind fun q1 => rv_GO rc_X2_scentsIn 4 [some (.ref v0), some (.int v1), some (.int (v2 + q1.1)), some (.int (v3 + 1))] [] q1.2)) := by
  rw [← rv_blk_eq [4] 14]
  rfl
set_option maxRecDepth 100000 in
set_option maxHeartbeats 4000000 in
theorem ev_X2_pullPlug (p : Nat) (n1 : Int32) (w : rv_W) (hp : (rv_obj w p 1).isSome = true) : rv_EV 18 [.ref p, .int n1] w = ((rv_ldFR w p 1 0).bind fun a1 => ((rv_stI w a1 n1 0).bind fun w2 => rv_GO rc_X2_pullPlug 9 [some (.ref p), some (.int n1), some (.int 0)] [] w2)) := by
  have e : rv_EV 18 [.ref p, .int n1] w = rv_GO rc_X2_pullPlug 0 [some (.ref p), some (.int n1), none] [] w := by
    show cond ((rv_obj w p 1).isSome && true) _ _ = _
    rw [hp]
    rfl
  rw [e, ← rv_blk_eq [9] 9]
  rfl
set_option maxRecDepth 100000 in
set_option maxHeartbeats 4000000 in
theorem bk_X2_pullPlug_9 (v0 : Nat) (v1 : Int32) (v2 : Int32) (w : rv_W) : rv_GO rc_X2_pullPlug 9 [some (.ref v0), some (.int v1), some (.int v2)] [] w = (bif rv_cnd .ge v2 4 then some (none, w) else ((rv_rv (rv_EV 16 [.ref v0, .int v1, .int v2, .int 0] w)).bind fun q1 => rv_GO rc_X2_pullPlug 9 [some (.ref v0), some (.int v1), some (.int (v2 + 1))] [] q1)) := by
  rw [← rv_blk_eq [9] 12]
  rfl
set_option maxRecDepth 100000 in
set_option maxHeartbeats 4000000 in
theorem ev_X2_nextDraw (p : Nat) (w : rv_W) (hp : (rv_obj w p 1).isSome = true) : rv_EV 19 [.ref p] w = ((rv_ldFI w p 1 10).bind fun x1 => ((rv_stF w p 1 10 (.int ((x1 * 1103515245) + 12345))).bind fun w2 => ((rv_ldFI w2 p 1 10).bind fun x3 => some (some (.int (Int32.toUInt32 x3 >>> (Int32.toUInt32 8 &&& Int32.toUInt32 31)).toInt32), w2)))) := by
  have e : rv_EV 19 [.ref p] w = rv_GO rc_X2_nextDraw 0 [some (.ref p)] [] w := by
    show cond ((rv_obj w p 1).isSome && true) _ _ = _
    rw [hp]
    rfl
  rw [e, ← rv_blk_eq [] 14]
  rfl
set_option maxRecDepth 100000 in
set_option maxHeartbeats 4000000 in
theorem ev_X2_passHours (p : Nat) (n1 : Int32) (w : rv_W) (hp : (rv_obj w p 1).isSome = true) : rv_EV 20 [.ref p, .int n1] w = rv_GO rc_X2_passHours 2 [some (.ref p), some (.int n1), some (.int 0)] [] w := by
  have e : rv_EV 20 [.ref p, .int n1] w = rv_GO rc_X2_passHours 0 [some (.ref p), some (.int n1), none] [] w := by
    show cond ((rv_obj w p 1).isSome && true) _ _ = _
    rw [hp]
    rfl
  rw [e, ← rv_blk_eq [2] 4]
  rfl
set_option maxRecDepth 100000 in
set_option maxHeartbeats 4000000 in
theorem bk_X2_passHours_2 (v0 : Nat) (v1 : Int32) (v2 : Int32) (w : rv_W) : rv_GO rc_X2_passHours 2 [some (.ref v0), some (.int v1), some (.int v2)] [] w = (bif rv_cnd .ge v2 v1 then some (none, w) else ((rv_rv (rv_EV 21 [.ref v0] w)).bind fun q1 => rv_GO rc_X2_passHours 2 [some (.ref v0), some (.int v1), some (.int (v2 + 1))] [] q1)) := by
  rw [← rv_blk_eq [2] 9]
  rfl
set_option maxRecDepth 100000 in
set_option maxHeartbeats 4000000 in
theorem ev_X2_passHour (p : Nat) (w : rv_W) (hp : (rv_obj w p 1).isSome = true) : rv_EV 21 [.ref p] w = ((rv_rv (rv_EV 23 [.ref p] w)).bind fun q1 => rv_GO rc_X2_passHour 6 [some (.ref p), some (.int 0)] [] q1) := by
  have e : rv_EV 21 [.ref p] w = rv_GO rc_X2_passHour 0 [some (.ref p), none] [] w := by
    show cond ((rv_obj w p 1).isSome && true) _ _ = _
    rw [hp]
    rfl
  rw [e, ← rv_blk_eq [6, 35] 6]
  rfl
set_option maxRecDepth 100000 in
set_option maxHeartbeats 4000000 in
theorem bk_X2_passHour_6 (v0 : Nat) (v1 : Int32) (w : rv_W) : rv_GO rc_X2_passHour 6 [some (.ref v0), some (.int v1)] [] w = ((rv_ldFI w v0 1 7).bind fun x1 => (bif rv_cnd .ge v1 x1 then rv_GO rc_X2_passHour 35 [some (.ref v0), some (.int 0)] [] w else ((rv_ri (rv_EV 24 [.ref v0, .int v1] w)).bind fun q2 => (bif rv_cnd .eq q2.1 0 then rv_GO rc_X2_passHour 6 [some (.ref v0), some (.int (v1 + 1))] [] q2.2 else ((rv_rv (rv_EV 25 [.ref v0, .int v1] q2.2)).bind fun q3 => rv_GO rc_X2_passHour 6 [some (.ref v0), some (.int (v1 + 1))] [] q3))))) := by
  rw [← rv_blk_eq [6, 35] 15]
  rfl
set_option maxRecDepth 100000 in
set_option maxHeartbeats 4000000 in
theorem bk_X2_passHour_35 (v0 : Nat) (v1 : Int32) (w : rv_W) : rv_GO rc_X2_passHour 35 [some (.ref v0), some (.int v1)] [] w = ((rv_ldFI w v0 1 7).bind fun x1 => (bif rv_cnd .ge v1 x1 then ((rv_ldFI w v0 1 9).bind fun x2 => ((rv_stF w v0 1 9 (.int (rv_min (x2 + 1) 99999))).bind fun w3 => some (none, w3))) else ((rv_ri (rv_EV 24 [.ref v0, .int v1] w)).bind fun q4 => (bif rv_cnd .eq q4.1 0 then rv_GO rc_X2_passHour 35 [some (.ref v0), some (.int (v1 + 1))] [] q4.2 else ((rv_ldFR q4.2 v0 1 5).bind fun a5 => ((rv_ldI q4.2 a5 v1).bind fun x6 => ((rv_ri (rv_EV 27 [.ref v0, .int v1] q4.2)).bind fun q7 => ((rv_stI q7.2 a5 v1 (x6 ||| q7.1)).bind fun w8 => rv_GO rc_X2_passHour 35 [some (.ref v0), some (.int (v1 + 1))] [] w8)))))))) := by
  rw [← rv_blk_eq [6, 35] 22]
  rfl
set_option maxRecDepth 100000 in
set_option maxHeartbeats 4000000 in
theorem ev_X2_stepFurther (n1 : Int32) (w : rv_W) : rv_EV 22 [.int n1] w = (bif rv_eq 4 0 then none else some (some (.int ((n1 * 3) / 4)), w)) := by
  have e : rv_EV 22 [.int n1] w = rv_GO rc_X2_stepFurther 0 [some (.int n1)] [] w := by
    rfl
  rw [e, ← rv_blk_eq [] 7]
  rfl
set_option maxRecDepth 100000 in
set_option maxHeartbeats 4000000 in
theorem ev_X2_letWaterDown (p : Nat) (w : rv_W) (hp : (rv_obj w p 1).isSome = true) : rv_EV 23 [.ref p] w = rv_GO rc_X2_letWaterDown 3 [some (.ref p), some (.int 9)] [] w := by
  have e : rv_EV 23 [.ref p] w = rv_GO rc_X2_letWaterDown 0 [some (.ref p), none] [] w := by
    show cond ((rv_obj w p 1).isSome && true) _ _ = _
    rw [hp]
    rfl
  rw [e, ← rv_blk_eq [3, 36] 4]
  rfl
set_option maxRecDepth 100000 in
set_option maxHeartbeats 4000000 in
theorem bk_X2_letWaterDown_3 (v0 : Nat) (v1 : Int32) (w : rv_W) : rv_GO rc_X2_letWaterDown 3 [some (.ref v0), some (.int v1)] [] w = (bif rv_cnd .le v1 0 then rv_GO rc_X2_letWaterDown 36 [some (.ref v0), some (.int 39)] [] w else ((rv_ldFR w v0 1 0).bind fun a1 => ((rv_ldFR w v0 1 0).bind fun a2 => ((rv_ldI w a2 (v1 - 1)).bind fun x3 => ((rv_stI w a1 v1 (rv_max (x3 - 4) 0)).bind fun w4 => rv_GO rc_X2_letWaterDown 3 [some (.ref v0), some (.int (v1 + (-1)))] [] w4))))) := by
  rw [← rv_blk_eq [3, 36] 20]
  rfl
set_option maxRecDepth 100000 in
set_option maxHeartbeats 4000000 in
theorem bk_X2_letWaterDown_36 (v0 : Nat) (v1 : Int32) (w : rv_W) : rv_GO rc_X2_letWaterDown 36 [some (.ref v0), some (.int v1)] [] w = (bif rv_cnd .lt v1 4 then ((rv_rv (rv_EV 18 [.ref v0, .int 0] w)).bind fun q1 => ((rv_ldFR q1 v0 1 0).bind fun a2 => ((rv_ldFI q1 v0 1 8).bind fun x3 => ((rv_stI q1 a2 0 x3).bind fun w4 => some (none, w4))))) else ((rv_ldFR w v0 1 1).bind fun a5 => ((rv_ldFR w v0 1 1).bind fun a6 => ((rv_ldI w a6 (v1 - 4)).bind fun x7 => ((rv_ri (rv_EV 22 [.int x7] w)).bind fun q8 => ((rv_stI q8.2 a5 v1 q8.1).bind fun w9 => rv_GO rc_X2_letWaterDown 36 [some (.ref v0), some (.int (v1 + (-1)))] [] w9)))))) := by
  rw [← rv_blk_eq [3, 36] 18]
  rfl
set_option maxRecDepth 100000 in
set_option maxHeartbeats 4000000 in
theorem ev_X2_isHere (p : Nat) (n1 : Int32) (w : rv_W) (hp : (rv_obj w p 1).isSome = true) : rv_EV 24 [.ref p, .int n1] w = ((rv_ldFI w p 1 11).bind fun x1 => (bif rv_cnd .ne ((x1 >>> (n1 &&& 31)) &&& 1) 0 then some (some (.int 0), w) else some (some (.int 1), w))) := by
  have e : rv_EV 24 [.ref p, .int n1] w = rv_GO rc_X2_isHere 0 [some (.ref p), some (.int n1)] [] w := by
    show cond ((rv_obj w p 1).isSome && true) _ _ = _
    rw [hp]
    rfl
  rw [e, ← rv_blk_eq [] 11]
  rfl
set_option maxRecDepth 100000 in
set_option maxHeartbeats 4000000 in
theorem ev_X2_bathe (p : Nat) (n1 : Int32) (w : rv_W) (hp : (rv_obj w p 1).isSome = true) : rv_EV 25 [.ref p, .int n1] w = ((rv_ldFR w p 1 3).bind fun a1 => ((rv_ldI w a1 n1).bind fun x2 => ((rv_ldFR w p 1 4).bind fun a3 => ((rv_ldI w a3 n1).bind fun x4 => ((rv_ldFR w p 1 0).bind fun a5 => ((rv_ldFR w p 1 0).bind fun a6 => ((rv_ldI w a6 x2).bind fun x7 => ((rv_ldFR w p 1 2).bind fun a8 => ((rv_ldI w a8 n1).bind fun x9 => ((rv_ri (rv_EV 3 [.int x9] w)).bind fun q10 => ((rv_stI q10.2 a5 x2 (rv_max (x7 - q10.1) 0)).bind fun w11 => ((rv_ri (rv_EV 15 [.ref p, .int x2, .int x4] w11)).bind fun q12 => ((rv_ri (rv_EV 26 [.ref p, .int n1] q12.2)).bind fun q13 => ((rv_rv (rv_EV 16 [.ref p, .int x2, .int x4, .int (rv_min (q12.1 + q13.1) 9999)] q13.2)).bind fun q14 => some (none, q14))))))))))))))) := by
  have e : rv_EV 25 [.ref p, .int n1] w = rv_GO rc_X2_bathe 0 [some (.ref p), some (.int n1), none, none] [] w := by
    show cond ((rv_obj w p 1).isSome && true) _ _ = _
    rw [hp]
    rfl
  rw [e, ← rv_blk_eq [] 42]
  rfl
set_option maxRecDepth 100000 in
set_option maxHeartbeats 4000000 in
theorem ev_X2_addsOf (p : Nat) (n1 : Int32) (w : rv_W) (hp : (rv_obj w p 1).isSome = true) : rv_EV 26 [.ref p, .int n1] w = ((rv_ldFR w p 1 3).bind fun a1 => ((rv_ldI w a1 n1).bind fun x2 => ((rv_ldFR w p 1 2).bind fun a3 => ((rv_ldI w a3 n1).bind fun x4 => ((rv_ldFR w p 1 0).bind fun a5 => ((rv_ldI w a5 x2).bind fun x6 => ((rv_ldFR w p 1 4).bind fun a7 => ((rv_ldI w a7 n1).bind fun x8 => ((rv_ri (rv_EV 15 [.ref p, .int x2, .int x8] w)).bind fun q9 => ((rv_ldFR q9.2 p 1 5).bind fun a10 => ((rv_ldI q9.2 a10 n1).bind fun x11 => ((rv_ri (rv_EV 2 [.int x4, .int x6, .int q9.1, .int x11] q9.2)).bind fun q12 => some (some (.int q12.1), q12.2))))))))))))) := by
  have e : rv_EV 26 [.ref p, .int n1] w = rv_GO rc_X2_addsOf 0 [some (.ref p), some (.int n1), none] [] w := by
    show cond ((rv_obj w p 1).isSome && true) _ _ = _
    rw [hp]
    rfl
  rw [e, ← rv_blk_eq [] 27]
  rfl
set_option maxRecDepth 100000 in
set_option maxHeartbeats 4000000 in
theorem ev_X2_smelledBy (p : Nat) (n1 : Int32) (w : rv_W) (hp : (rv_obj w p 1).isSome = true) : rv_EV 27 [.ref p, .int n1] w = ((rv_ldFR w p 1 3).bind fun a1 => ((rv_ldI w a1 n1).bind fun x2 => ((rv_ldFR w p 1 2).bind fun a3 => ((rv_ldI w a3 n1).bind fun x4 => ((rv_ri (rv_EV 4 [.int x4] w)).bind fun q5 => ((rv_ri (rv_EV 17 [.ref p, .int x2] q5.2)).bind fun q6 => rv_GO rc_X2_smelledBy 30 [some (.ref p), some (.int n1), some (.int x2), some (.int q5.1), some (.int q6.1), some (.int 0), some (.int 0), none, none] [] q6.2)))))) := by
  have e : rv_EV 27 [.ref p, .int n1] w = rv_GO rc_X2_smelledBy 0 [some (.ref p), some (.int n1), none, none, none, none, none, none, none] [] w := by
    show cond ((rv_obj w p 1).isSome && true) _ _ = _
    rw [hp]
    rfl
  rw [e, ← rv_blk_eq [30] 21]
  rfl
set_option maxRecDepth 100000 in
set_option maxHeartbeats 4000000 in
theorem bk_X2_smelledBy_30 (v0 : Nat) (v1 : Int32) (v2 : Int32) (v3 : Int32) (v4 : Int32) (v5 : Int32) (v6 : Int32) (w : rv_W) : rv_GO rc_X2_smelledBy 30 [some (.ref v0), some (.int v1), some (.int v2), some (.int v3), some (.int v4), some (.int v5), some (.int v6), none, none] [] w = (bif rv_cnd .ge v6 4 then some (some (.int v5), w) else ((rv_ri (rv_EV 15 [.ref v0, .int v2, .int v6] w)).bind fun q1 => (bif rv_eq 8 0 then none else ((rv_ldFR q1.2 v0 1 4).bind fun a2 => ((rv_ldI q1.2 a2 v1).bind fun x3 => (bif rv_cnd .eq v6 x3 then rv_GO rc_X2_smelledBy 30 [some (.ref v0), some (.int v1), some (.int v2), some (.int v3), some (.int v4), some (.int v5), some (.int (v6 + 1)), none, none] [] q1.2 else (bif rv_cnd .lt q1.1 (v3 + ((v4 - q1.1) / 8)) then rv_GO rc_X2_smelledBy 30 [some (.ref v0), some (.int v1), some (.int v2), some (.int v3), some (.int v4), some (.int v5), some (.int (v6 + 1)), none, none] [] q1.2 else rv_GO rc_X2_smelledBy 30 [some (.ref v0), some (.int v1), some (.int v2), some (.int v3), some (.int v4), some (.int (v5 ||| (1 <<< (v6 &&& 31)))), some (.int (v6 + 1)), none, none] [] q1.2))))))) := by
  rw [← rv_blk_eq [30] 35]
  rfl
set_option maxRecDepth 100000 in
set_option maxHeartbeats 4000000 in
theorem ev_X2_whoIsIn (p : Nat) (n1 : Int32) (w : rv_W) (hp : (rv_obj w p 1).isSome = true) : rv_EV 28 [.ref p, .int n1] w = rv_GO rc_X2_whoIsIn 4 [some (.ref p), some (.int n1), some (.int 0), some (.int 0)] [] w := by
  have e : rv_EV 28 [.ref p, .int n1] w = rv_GO rc_X2_whoIsIn 0 [some (.ref p), some (.int n1), none, none] [] w := by
    show cond ((rv_obj w p 1).isSome && true) _ _ = _
    rw [hp]
    rfl
  rw [e, ← rv_blk_eq [4] 6]
  rfl
set_option maxRecDepth 100000 in
set_option maxHeartbeats 4000000 in
theorem bk_X2_whoIsIn_4 (v0 : Nat) (v1 : Int32) (v2 : Int32) (v3 : Int32) (w : rv_W) : rv_GO rc_X2_whoIsIn 4 [some (.ref v0), some (.int v1), some (.int v2), some (.int v3)] [] w = ((rv_ldFI w v0 1 7).bind fun x1 => (bif rv_cnd .ge v3 x1 then some (some (.int v2), w) else ((rv_ldFR w v0 1 3).bind fun a2 => ((rv_ldI w a2 v3).bind fun x3 => (bif rv_cnd .ne x3 v1 then rv_GO rc_X2_whoIsIn 4 [some (.ref v0), some (.int v1), some (.int v2), some (.int (v3 + 1))] [] w else rv_GO rc_X2_whoIsIn 4 [some (.ref v0), some (.int v1), some (.int (v2 ||| (1 <<< (v3 &&& 31)))), some (.int (v3 + 1))] [] w))))) := by
  rw [← rv_blk_eq [4] 20]
  rfl
set_option maxRecDepth 100000 in
set_option maxHeartbeats 4000000 in
theorem ev_X2_whoKnow (p : Nat) (n1 : Int32) (w : rv_W) (hp : (rv_obj w p 1).isSome = true) : rv_EV 29 [.ref p, .int n1] w = rv_GO rc_X2_whoKnow 4 [some (.ref p), some (.int n1), some (.int 0), some (.int 0)] [] w := by
  have e : rv_EV 29 [.ref p, .int n1] w = rv_GO rc_X2_whoKnow 0 [some (.ref p), some (.int n1), none, none] [] w := by
    show cond ((rv_obj w p 1).isSome && true) _ _ = _
    rw [hp]
    rfl
  rw [e, ← rv_blk_eq [4] 6]
  rfl
set_option maxRecDepth 100000 in
set_option maxHeartbeats 4000000 in
theorem bk_X2_whoKnow_4 (v0 : Nat) (v1 : Int32) (v2 : Int32) (v3 : Int32) (w : rv_W) : rv_GO rc_X2_whoKnow 4 [some (.ref v0), some (.int v1), some (.int v2), some (.int v3)] [] w = ((rv_ldFI w v0 1 7).bind fun x1 => (bif rv_cnd .ge v3 x1 then some (some (.int v2), w) else ((rv_ldFR w v0 1 5).bind fun a2 => ((rv_ldI w a2 v3).bind fun x3 => rv_GO rc_X2_whoKnow 4 [some (.ref v0), some (.int v1), some (.int (v2 ||| (((x3 >>> (v1 &&& 31)) &&& 1) <<< (v3 &&& 31)))), some (.int (v3 + 1))] [] w)))) := by
  rw [← rv_blk_eq [4] 21]
  rfl
set_option maxRecDepth 100000 in
set_option maxHeartbeats 4000000 in
theorem ev_X2_whoKnowAll (p : Nat) (w : rv_W) (hp : (rv_obj w p 1).isSome = true) : rv_EV 30 [.ref p] w = rv_GO rc_X2_whoKnowAll 4 [some (.ref p), some (.int 0), some (.int 0)] [] w := by
  have e : rv_EV 30 [.ref p] w = rv_GO rc_X2_whoKnowAll 0 [some (.ref p), none, none] [] w := by
    show cond ((rv_obj w p 1).isSome && true) _ _ = _
    rw [hp]
    rfl
  rw [e, ← rv_blk_eq [4] 6]
  rfl
set_option maxRecDepth 100000 in
set_option maxHeartbeats 4000000 in
theorem bk_X2_whoKnowAll_4 (v0 : Nat) (v1 : Int32) (v2 : Int32) (w : rv_W) : rv_GO rc_X2_whoKnowAll 4 [some (.ref v0), some (.int v1), some (.int v2)] [] w = ((rv_ldFI w v0 1 7).bind fun x1 => (bif rv_cnd .ge v2 x1 then some (some (.int v1), w) else ((rv_ldFR w v0 1 5).bind fun a2 => ((rv_ldI w a2 v2).bind fun x3 => ((rv_ldFR w v0 1 4).bind fun a4 => ((rv_ldI w a4 v2).bind fun x5 => (bif rv_cnd .ne (x3 ||| (1 <<< (x5 &&& 31))) 15 then rv_GO rc_X2_whoKnowAll 4 [some (.ref v0), some (.int v1), some (.int (v2 + 1))] [] w else rv_GO rc_X2_whoKnowAll 4 [some (.ref v0), some (.int (v1 ||| (1 <<< (v2 &&& 31)))), some (.int (v2 + 1))] [] w))))))) := by
  rw [← rv_blk_eq [4] 27]
  rfl
set_option maxRecDepth 100000 in
set_option maxHeartbeats 4000000 in
theorem ev_X2_whoAreUnknown (p : Nat) (w : rv_W) (hp : (rv_obj w p 1).isSome = true) : rv_EV 31 [.ref p] w = rv_GO rc_X2_whoAreUnknown 4 [some (.ref p), some (.int 0), some (.int 0), none] [] w := by
  have e : rv_EV 31 [.ref p] w = rv_GO rc_X2_whoAreUnknown 0 [some (.ref p), none, none, none] [] w := by
    show cond ((rv_obj w p 1).isSome && true) _ _ = _
    rw [hp]
    rfl
  rw [e, ← rv_blk_eq [4] 6]
  rfl
set_option maxRecDepth 100000 in
set_option maxHeartbeats 4000000 in
theorem bk_X2_whoAreUnknown_4 (v0 : Nat) (v1 : Int32) (v2 : Int32) (w : rv_W) : rv_GO rc_X2_whoAreUnknown 4 [some (.ref v0), some (.int v1), some (.int v2), none] [] w = ((rv_ldFI w v0 1 7).bind fun x1 => (bif rv_cnd .ge v2 x1 then some (some (.int v1), w) else ((rv_ldFR w v0 1 4).bind fun a2 => ((rv_ldI w a2 v2).bind fun x3 => ((rv_ri (rv_EV 29 [.ref v0, .int x3] w)).bind fun q4 => (bif rv_cnd .ne (q4.1 &&& ((1 <<< (v2 &&& 31)) ^^^ (-1))) 0 then rv_GO rc_X2_whoAreUnknown 4 [some (.ref v0), some (.int v1), some (.int (v2 + 1)), none] [] q4.2 else rv_GO rc_X2_whoAreUnknown 4 [some (.ref v0), some (.int (v1 ||| (1 <<< (v2 &&& 31)))), some (.int (v2 + 1)), none] [] q4.2)))))) := by
  rw [← rv_blk_eq [4] 27]
  rfl
set_option maxRecDepth 100000 in
set_option maxHeartbeats 4000000 in
theorem ev_X2_knownPairs (p : Nat) (w : rv_W) (hp : (rv_obj w p 1).isSome = true) : rv_EV 32 [.ref p] w = rv_GO rc_X2_knownPairs 4 [some (.ref p), some (.int 0), some (.int 0)] [] w := by
  have e : rv_EV 32 [.ref p] w = rv_GO rc_X2_knownPairs 0 [some (.ref p), none, none] [] w := by
    show cond ((rv_obj w p 1).isSome && true) _ _ = _
    rw [hp]
    rfl
  rw [e, ← rv_blk_eq [4] 6]
  rfl
set_option maxRecDepth 100000 in
set_option maxHeartbeats 4000000 in
theorem bk_X2_knownPairs_4 (v0 : Nat) (v1 : Int32) (v2 : Int32) (w : rv_W) : rv_GO rc_X2_knownPairs 4 [some (.ref v0), some (.int v1), some (.int v2)] [] w = ((rv_ldFI w v0 1 7).bind fun x1 => (bif rv_cnd .ge v2 x1 then some (some (.int v1), w) else ((rv_ldFR w v0 1 5).bind fun a2 => ((rv_ldI w a2 v2).bind fun x3 => ((rv_ri (rv_EV 209 [.int x3] w)).bind fun q4 => rv_GO rc_X2_knownPairs 4 [some (.ref v0), some (.int (v1 + q4.1)), some (.int (v2 + 1))] [] q4.2))))) := by
  rw [← rv_blk_eq [4] 16]
  rfl
set_option maxRecDepth 100000 in
set_option maxHeartbeats 4000000 in
theorem ev_X2_tubsBelow (p : Nat) (n1 : Int32) (w : rv_W) (hp : (rv_obj w p 1).isSome = true) : rv_EV 33 [.ref p, .int n1] w = rv_GO rc_X2_tubsBelow 4 [some (.ref p), some (.int n1), some (.int 0), some (.int 0)] [] w := by
  have e : rv_EV 33 [.ref p, .int n1] w = rv_GO rc_X2_tubsBelow 0 [some (.ref p), some (.int n1), none, none] [] w := by
    show cond ((rv_obj w p 1).isSome && true) _ _ = _
    rw [hp]
    rfl
  rw [e, ← rv_blk_eq [4] 6]
  rfl
set_option maxRecDepth 100000 in
set_option maxHeartbeats 4000000 in
theorem bk_X2_tubsBelow_4 (v0 : Nat) (v1 : Int32) (v2 : Int32) (v3 : Int32) (w : rv_W) : rv_GO rc_X2_tubsBelow 4 [some (.ref v0), some (.int v1), some (.int v2), some (.int v3)] [] w = (bif rv_cnd .ge v3 10 then some (some (.int v2), w) else ((rv_ldFR w v0 1 0).bind fun a1 => ((rv_ldI w a1 v3).bind fun x2 => (bif rv_cnd .ge x2 v1 then rv_GO rc_X2_tubsBelow 4 [some (.ref v0), some (.int v1), some (.int v2), some (.int (v3 + 1))] [] w else rv_GO rc_X2_tubsBelow 4 [some (.ref v0), some (.int v1), some (.int (v2 ||| (1 <<< (v3 &&& 31)))), some (.int (v3 + 1))] [] w)))) := by
  rw [← rv_blk_eq [4] 19]
  rfl
set_option maxRecDepth 100000 in
set_option maxHeartbeats 4000000 in
theorem ev_X2_emptyTubs (p : Nat) (w : rv_W) (hp : (rv_obj w p 1).isSome = true) : rv_EV 34 [.ref p] w = rv_GO rc_X2_emptyTubs 4 [some (.ref p), some (.int 0), some (.int 0)] [] w := by
  have e : rv_EV 34 [.ref p] w = rv_GO rc_X2_emptyTubs 0 [some (.ref p), none, none] [] w := by
    show cond ((rv_obj w p 1).isSome && true) _ _ = _
    rw [hp]
    rfl
  rw [e, ← rv_blk_eq [4] 6]
  rfl
set_option maxRecDepth 100000 in
set_option maxHeartbeats 4000000 in
theorem bk_X2_emptyTubs_4 (v0 : Nat) (v1 : Int32) (v2 : Int32) (w : rv_W) : rv_GO rc_X2_emptyTubs 4 [some (.ref v0), some (.int v1), some (.int v2)] [] w = (bif rv_cnd .ge v2 10 then some (some (.int v1), w) else ((rv_ri (rv_EV 28 [.ref v0, .int v2] w)).bind fun q1 => (bif rv_cnd .ne q1.1 0 then rv_GO rc_X2_emptyTubs 4 [some (.ref v0), some (.int v1), some (.int (v2 + 1))] [] q1.2 else rv_GO rc_X2_emptyTubs 4 [some (.ref v0), some (.int (v1 + 1)), some (.int (v2 + 1))] [] q1.2))) := by
  rw [← rv_blk_eq [4] 12]
  rfl
set_option maxRecDepth 100000 in
set_option maxHeartbeats 4000000 in
theorem ev_X2_allWarmth (p : Nat) (w : rv_W) (hp : (rv_obj w p 1).isSome = true) : rv_EV 35 [.ref p] w = ((rv_ldFR w p 1 0).bind fun a1 => ((rv_len w a1).bind fun x2 => rv_GO rc_X2_allWarmth 13 [none, some (.int 0), some (.ref a1), some (.int x2), some (.int 0), none] [] w)) := by
  have e : rv_EV 35 [.ref p] w = rv_GO rc_X2_allWarmth 0 [some (.ref p), none, none, none, none, none] [] w := by
    show cond ((rv_obj w p 1).isSome && true) _ _ = _
    rw [hp]
    rfl
  rw [e, ← rv_blk_eq [13] 12]
  rfl
set_option maxRecDepth 100000 in
set_option maxHeartbeats 4000000 in
theorem bk_X2_allWarmth_13 (v1 : Int32) (v2 : Nat) (v3 : Int32) (v4 : Int32) (w : rv_W) : rv_GO rc_X2_allWarmth 13 [none, some (.int v1), some (.ref v2), some (.int v3), some (.int v4), none] [] w = (bif rv_cnd .ge v4 v3 then some (some (.int v1), w) else ((rv_ldI w v2 v4).bind fun x1 => rv_GO rc_X2_allWarmth 13 [none, some (.int (v1 + x1)), some (.ref v2), some (.int v3), some (.int (v4 + 1)), none] [] w)) := by
  rw [← rv_blk_eq [13] 15]
  rfl
set_option maxRecDepth 100000 in
set_option maxHeartbeats 4000000 in
theorem ev_X2_allScents (p : Nat) (w : rv_W) (hp : (rv_obj w p 1).isSome = true) : rv_EV 36 [.ref p] w = ((rv_ldFR w p 1 1).bind fun a1 => ((rv_len w a1).bind fun x2 => rv_GO rc_X2_allScents 13 [none, some (.int 0), some (.ref a1), some (.int x2), some (.int 0), none] [] w)) := by
  have e : rv_EV 36 [.ref p] w = rv_GO rc_X2_allScents 0 [some (.ref p), none, none, none, none, none] [] w := by
    show cond ((rv_obj w p 1).isSome && true) _ _ = _
    rw [hp]
    rfl
  rw [e, ← rv_blk_eq [13] 12]
  rfl
set_option maxRecDepth 100000 in
set_option maxHeartbeats 4000000 in
theorem bk_X2_allScents_13 (v1 : Int32) (v2 : Nat) (v3 : Int32) (v4 : Int32) (w : rv_W) : rv_GO rc_X2_allScents 13 [none, some (.int v1), some (.ref v2), some (.int v3), some (.int v4), none] [] w = (bif rv_cnd .ge v4 v3 then some (some (.int v1), w) else ((rv_ldI w v2 v4).bind fun x1 => rv_GO rc_X2_allScents 13 [none, some (.int (v1 + x1)), some (.ref v2), some (.int v3), some (.int (v4 + 1)), none] [] w)) := by
  rw [← rv_blk_eq [13] 15]
  rfl
set_option maxRecDepth 100000 in
set_option maxHeartbeats 4000000 in
theorem ev_X2_heldSpots (p : Nat) (w : rv_W) (hp : (rv_obj w p 1).isSome = true) : rv_EV 37 [.ref p] w = ((rv_ldFR w p 1 6).bind fun a1 => ((rv_len w a1).bind fun x2 => rv_GO rc_X2_heldSpots 13 [none, some (.int 0), some (.ref a1), some (.int x2), some (.int 0), none] [] w)) := by
  have e : rv_EV 37 [.ref p] w = rv_GO rc_X2_heldSpots 0 [some (.ref p), none, none, none, none, none] [] w := by
    show cond ((rv_obj w p 1).isSome && true) _ _ = _
    rw [hp]
    rfl
  rw [e, ← rv_blk_eq [13] 12]
  rfl
set_option maxRecDepth 100000 in
set_option maxHeartbeats 4000000 in
theorem bk_X2_heldSpots_13 (v1 : Int32) (v2 : Nat) (v3 : Int32) (v4 : Int32) (w : rv_W) : rv_GO rc_X2_heldSpots 13 [none, some (.int v1), some (.ref v2), some (.int v3), some (.int v4), none] [] w = (bif rv_cnd .ge v4 v3 then some (some (.int v1), w) else ((rv_ldI w v2 v4).bind fun x1 => (bif rv_cnd .eq x1 (-1) then rv_GO rc_X2_heldSpots 13 [none, some (.int v1), some (.ref v2), some (.int v3), some (.int (v4 + 1)), none] [] w else rv_GO rc_X2_heldSpots 13 [none, some (.int (v1 + 1)), some (.ref v2), some (.int v3), some (.int (v4 + 1)), none] [] w))) := by
  rw [← rv_blk_eq [13] 15]
  rfl
