set_option maxRecDepth 100000 in
set_option maxHeartbeats 4000000 in
theorem ev_X3_readText (p : Nat) (n1 : Nat) (n2 : Int32) (n3 : Nat) (w : rv_W) (hp : (rv_obj w p 2).isSome = true) : rv_EV 38 [.ref p, .ref n1, .int n2, .ref n3] w = ((rv_stF w p 2 0 (.ref n1)).bind fun w1 => ((rv_len w1 n1).bind fun x2 => ((rv_stF w1 p 2 1 (.int (rv_min n2 x2))).bind fun w3 => ((rv_stF w3 p 2 4 (.int 0)).bind fun w4 => ((rv_rv (rv_EV 47 [.ref p] w4)).bind fun q5 => rv_GO rc_X3_readText 27 [some (.ref p), none, none, some (.ref n3), some (.int 1)] [] q5))))) := by
  have e : rv_EV 38 [.ref p, .ref n1, .int n2, .ref n3] w = rv_GO rc_X3_readText 0 [some (.ref p), some (.ref n1), some (.int n2), some (.ref n3), none] [] w := by
    show cond ((rv_obj w p 2).isSome && true) _ _ = _
    rw [hp]
    rfl
  rw [e, ← rv_blk_eq [27] 18]
  rfl
set_option maxRecDepth 100000 in
set_option maxHeartbeats 4000000 in
theorem bk_X3_readText_27 (v0 : Nat) (v3 : Nat) (v4 : Int32) (w : rv_W) : rv_GO rc_X3_readText 27 [some (.ref v0), none, none, some (.ref v3), some (.int v4)] [] w = ((rv_ldFI w v0 2 1).bind fun x1 => (bif rv_cnd .gt v4 x1 then ((rv_ldFI w v0 2 3).bind fun x2 => some (some (.int ((-1) - x2)), w)) else ((rv_ri (rv_EV 39 [.ref v0, .ref v3] w)).bind fun q3 => (bif rv_cnd .ne q3.1 0 then ((rv_ldFI q3.2 v0 2 2).bind fun x4 => (bif rv_cnd .ne x4 0 then ((rv_ldFI q3.2 v0 2 2).bind fun x5 => (bif rv_cnd .eq x5 3 then ((rv_rv (rv_EV 47 [.ref v0] q3.2)).bind fun q6 => rv_GO rc_X3_readText 27 [some (.ref v0), none, none, some (.ref v3), some (.int (v4 + 1))] [] q6) else ((rv_ldFI q3.2 v0 2 3).bind fun x7 => some (some (.int ((-1) - x7)), q3.2)))) else some (some (.int v4), q3.2))) else ((rv_ldFI q3.2 v0 2 3).bind fun x8 => some (some (.int ((-1) - x8)), q3.2)))))) := by
  rw [← rv_blk_eq [27] 22]
  rfl
set_option maxRecDepth 100000 in
set_option maxHeartbeats 4000000 in
theorem ev_X3_readItem (p : Nat) (n1 : Nat) (w : rv_W) (hp : (rv_obj w p 2).isSome = true) : rv_EV 39 [.ref p, .ref n1] w = ((rv_ri (rv_EV 42 [.ref p] w)).bind fun q1 => (bif rv_cnd .lt q1.1 0 then ((rv_ri (rv_EV 45 [.ref p, .ref 1010] q1.2)).bind fun q2 => (bif rv_cnd .eq q2.1 0 then ((rv_ri (rv_EV 45 [.ref p, .ref 1012] q2.2)).bind fun q3 => (bif rv_cnd .eq q3.1 0 then ((rv_ri (rv_EV 45 [.ref p, .ref 1013] q3.2)).bind fun q4 => (bif rv_cnd .eq q4.1 0 then some (some (.int 0), q4.2) else ((rv_ri (rv_EV 46 [.ref p, .int 9] q4.2)).bind fun q5 => (bif rv_cnd .lt q5.1 0 then rv_GO rc_X3_readItem 91 [none, none, none, some (.int q5.1)] [] q5.2 else ((rv_rv (rv_EV 18 [.ref n1, .int q5.1] q5.2)).bind fun q6 => rv_GO rc_X3_readItem 91 [none, none, none, some (.int q5.1)] [] q6))))) else ((rv_ri (rv_EV 46 [.ref p, .int 99] q3.2)).bind fun q7 => (bif rv_cnd .lt q7.1 0 then rv_GO rc_X3_readItem 56 [none, none, none, some (.int q7.1)] [] q7.2 else ((rv_stF q7.2 n1 1 8 (.int q7.1)).bind fun w8 => rv_GO rc_X3_readItem 56 [none, none, none, some (.int q7.1)] [] w8))))) else ((rv_ri (rv_EV 41 [.ref p, .ref n1] q2.2)).bind fun q9 => (bif rv_bz q9.1 then some (some (.int q9.1), q9.2) else none)))) else ((rv_ri (rv_EV 40 [.ref p, .ref n1, .int q1.1] q1.2)).bind fun q10 => (bif rv_bz q10.1 then some (some (.int q10.1), q10.2) else none)))) := by
  have e : rv_EV 39 [.ref p, .ref n1] w = rv_GO rc_X3_readItem 0 [some (.ref p), some (.ref n1), none, none] [] w := by
    show cond ((rv_obj w p 2).isSome && true) _ _ = _
    rw [hp]
    rfl
  rw [e, ← rv_blk_eq [56, 91] 28]
  rfl
set_option maxRecDepth 100000 in
set_option maxHeartbeats 4000000 in
theorem bk_X3_readItem_56 (v3 : Int32) (w : rv_W) : rv_GO rc_X3_readItem 56 [none, none, none, some (.int v3)] [] w = (bif rv_cnd .lt v3 0 then some (some (.int 0), w) else some (some (.int 1), w)) := by
  rw [← rv_blk_eq [56, 91] 6]
  rfl
set_option maxRecDepth 100000 in
set_option maxHeartbeats 4000000 in
theorem bk_X3_readItem_91 (v3 : Int32) (w : rv_W) : rv_GO rc_X3_readItem 91 [none, none, none, some (.int v3)] [] w = (bif rv_cnd .lt v3 0 then some (some (.int 0), w) else some (some (.int 1), w)) := by
  rw [← rv_blk_eq [56, 91] 6]
  rfl
set_option maxRecDepth 100000 in
set_option maxHeartbeats 4000000 in
theorem ev_X3_readBather (p : Nat) (n1 : Nat) (n2 : Int32) (w : rv_W) (hp : (rv_obj w p 2).isSome = true) : rv_EV 40 [.ref p, .ref n1, .int n2] w = ((rv_ri (rv_EV 11 [.ref n1] w)).bind fun q1 => (bif rv_cnd .eq q1.1 0 then ((rv_rv (rv_EV 47 [.ref p] q1.2)).bind fun q2 => ((rv_ri (rv_EV 45 [.ref p, .ref 1007] q2)).bind fun q3 => (bif rv_cnd .eq q3.1 0 then rv_GO rc_X3_readBather 32 [some (.ref p), some (.ref n1), some (.int n2), none, none, none] [.int 0] q3.2 else ((rv_ri (rv_EV 46 [.ref p, .int 9] q3.2)).bind fun q4 => rv_GO rc_X3_readBather 32 [some (.ref p), some (.ref n1), some (.int n2), none, none, none] [.int q4.1] q4.2)))) else some (some (.int 0), q1.2))) := by
  have e : rv_EV 40 [.ref p, .ref n1, .int n2] w = rv_GO rc_X3_readBather 0 [some (.ref p), some (.ref n1), some (.int n2), none, none, none] [] w := by
    show cond ((rv_obj w p 2).isSome && true) _ _ = _
    rw [hp]
    rfl
  rw [e, ← rv_blk_eq [32, 57, 85] 15]
  rfl
set_option maxRecDepth 100000 in
set_option maxHeartbeats 4000000 in
theorem bk_X3_readBather_32 (v0 : Nat) (v1 : Nat) (v2 : Int32) (s0 : Int32) (w : rv_W) : rv_GO rc_X3_readBather 32 [some (.ref v0), some (.ref v1), some (.int v2), none, none, none] [.int s0] w = (bif rv_cnd .ge s0 0 then ((rv_ri (rv_EV 45 [.ref v0, .ref 1008] w)).bind fun q1 => (bif rv_cnd .eq q1.1 0 then rv_GO rc_X3_readBather 57 [some (.ref v0), some (.ref v1), some (.int v2), some (.int s0), none, none] [.int 0] q1.2 else ((rv_ri (rv_EV 46 [.ref v0, .int 3] q1.2)).bind fun q2 => rv_GO rc_X3_readBather 57 [some (.ref v0), some (.ref v1), some (.int v2), some (.int s0), none, none] [.int q2.1] q2.2))) else some (some (.int 0), w)) := by
  rw [← rv_blk_eq [32, 57, 85] 13]
  rfl
set_option maxRecDepth 100000 in
set_option maxHeartbeats 4000000 in
theorem bk_X3_readBather_57 (v0 : Nat) (v1 : Nat) (v2 : Int32) (v3 : Int32) (s0 : Int32) (w : rv_W) : rv_GO rc_X3_readBather 57 [some (.ref v0), some (.ref v1), some (.int v2), some (.int v3), none, none] [.int s0] w = (bif rv_cnd .ge s0 0 then ((rv_ri (rv_EV 45 [.ref v0, .ref 1009] w)).bind fun q1 => (bif rv_cnd .eq q1.1 0 then rv_GO rc_X3_readBather 85 [none, some (.ref v1), some (.int v2), some (.int v3), some (.int s0), none] [.int 0] q1.2 else ((rv_ri (rv_EV 46 [.ref v0, .int 15] q1.2)).bind fun q2 => rv_GO rc_X3_readBather 85 [none, some (.ref v1), some (.int v2), some (.int v3), some (.int s0), none] [.int q2.1] q2.2))) else some (some (.int 0), w)) := by
  rw [← rv_blk_eq [32, 57, 85] 13]
  rfl
set_option maxRecDepth 100000 in
set_option maxHeartbeats 4000000 in
theorem bk_X3_readBather_85 (v1 : Nat) (v2 : Int32) (v3 : Int32) (v4 : Int32) (s0 : Int32) (w : rv_W) : rv_GO rc_X3_readBather 85 [none, some (.ref v1), some (.int v2), some (.int v3), some (.int v4), none] [.int s0] w = (bif rv_cnd .ge s0 0 then ((rv_ri (rv_EV 12 [.ref v1, .int v2, .int v3, .int v4, .int s0] w)).bind fun q1 => some (some (.int 1), q1.2)) else some (some (.int 0), w)) := by
  rw [← rv_blk_eq [32, 57, 85] 13]
  rfl
set_option maxRecDepth 100000 in
set_option maxHeartbeats 4000000 in
theorem ev_X3_readTub (p : Nat) (n1 : Nat) (w : rv_W) (hp : (rv_obj w p 2).isSome = true) : rv_EV 41 [.ref p, .ref n1] w = ((rv_ri (rv_EV 46 [.ref p, .int 9] w)).bind fun q1 => (bif rv_cnd .ge q1.1 0 then ((rv_ri (rv_EV 46 [.ref p, .int 99] q1.2)).bind fun q2 => (bif rv_cnd .ge q2.1 0 then ((rv_ldFR q2.2 n1 1 0).bind fun a3 => ((rv_stI q2.2 a3 q1.1 q2.1).bind fun w4 => ((rv_ri (rv_EV 45 [.ref p, .ref 1011] w4)).bind fun q5 => (bif rv_cnd .ne q5.1 0 then ((rv_ri (rv_EV 46 [.ref p, .int 3] q5.2)).bind fun q6 => (bif rv_cnd .ge q6.1 0 then ((rv_ri (rv_EV 46 [.ref p, .int 9999] q6.2)).bind fun q7 => (bif rv_cnd .ge q7.1 0 then ((rv_rv (rv_EV 16 [.ref n1, .int q1.1, .int q6.1, .int q7.1] q7.2)).bind fun q8 => some (some (.int 1), q8)) else some (some (.int 0), q7.2))) else some (some (.int 0), q6.2))) else some (some (.int 1), q5.2))))) else some (some (.int 0), q2.2))) else some (some (.int 0), q1.2))) := by
  have e : rv_EV 41 [.ref p, .ref n1] w = rv_GO rc_X3_readTub 0 [some (.ref p), some (.ref n1), none, none, none, none] [] w := by
    show cond ((rv_obj w p 2).isSome && true) _ _ = _
    rw [hp]
    rfl
  rw [e, ← rv_blk_eq [] 41]
  rfl
set_option maxRecDepth 100000 in
set_option maxHeartbeats 4000000 in
theorem ev_X3_kindAtHand (p : Nat) (w : rv_W) (hp : (rv_obj w p 2).isSome = true) : rv_EV 42 [.ref p] w = rv_GO rc_X3_kindAtHand 2 [some (.ref p), some (.int 0)] [] w := by
  have e : rv_EV 42 [.ref p] w = rv_GO rc_X3_kindAtHand 0 [some (.ref p), none] [] w := by
    show cond ((rv_obj w p 2).isSome && true) _ _ = _
    rw [hp]
    rfl
  rw [e, ← rv_blk_eq [2] 4]
  rfl
set_option maxRecDepth 100000 in
set_option maxHeartbeats 4000000 in
theorem bk_X3_kindAtHand_2 (v0 : Nat) (v1 : Int32) (w : rv_W) : rv_GO rc_X3_kindAtHand 2 [some (.ref v0), some (.int v1)] [] w = (bif rv_cnd .ge v1 7 then some (some (.int (-1)), w) else ((rv_rr (rv_EV 43 [.int v1] w)).bind fun q1 => ((rv_ri (rv_EV 44 [.ref v0, .ref q1.1] q1.2)).bind fun q2 => (bif rv_cnd .eq q2.1 0 then rv_GO rc_X3_kindAtHand 2 [some (.ref v0), some (.int (v1 + 1))] [] q2.2 else some (some (.int v1), q2.2))))) := by
  rw [← rv_blk_eq [2] 12]
  rfl
set_option maxRecDepth 100000 in
set_option maxHeartbeats 4000000 in
theorem ev_X3_kindWord (n1 : Int32) (w : rv_W) : rv_EV 43 [.int n1] w = (bif rv_eq n1 (Int32.ofInt 1) then some (some (.ref 1000), w) else (bif rv_eq n1 (Int32.ofInt 2) then some (some (.ref 1001), w) else (bif rv_eq n1 (Int32.ofInt 3) then some (some (.ref 1002), w) else (bif rv_eq n1 (Int32.ofInt 4) then some (some (.ref 1003), w) else (bif rv_eq n1 (Int32.ofInt 5) then some (some (.ref 1004), w) else (bif rv_eq n1 (Int32.ofInt 6) then some (some (.ref 1005), w) else some (some (.ref 1006), w))))))) := by
  have e : rv_EV 43 [.int n1] w = rv_GO rc_X3_kindWord 0 [some (.int n1)] [] w := by
    rfl
  rw [e, ← rv_blk_eq [] 5]
  rfl
set_option maxRecDepth 100000 in
set_option maxHeartbeats 4000000 in
theorem ev_X3_isAtHand (p : Nat) (n1 : Nat) (w : rv_W) (hp : (rv_obj w p 2).isSome = true) : rv_EV 44 [.ref p, .ref n1] w = ((rv_ldFI w p 2 2).bind fun x1 => (bif rv_cnd .ne x1 1 then some (some (.int 0), w) else ((rv_ldFI w p 2 4).bind fun x2 => ((rv_ldFI w p 2 3).bind fun x3 => ((rv_ri (rv_EV 210 [.ref n1] w)).bind fun q4 => (bif rv_cnd .eq (x2 - x3) q4.1 then rv_GO rc_X3_isAtHand 28 [some (.ref p), some (.ref n1), some (.int 0)] [] q4.2 else some (some (.int 0), q4.2))))))) := by
  have e : rv_EV 44 [.ref p, .ref n1] w = rv_GO rc_X3_isAtHand 0 [some (.ref p), some (.ref n1), none] [] w := by
    show cond ((rv_obj w p 2).isSome && true) _ _ = _
    rw [hp]
    rfl
  rw [e, ← rv_blk_eq [28] 16]
  rfl
set_option maxRecDepth 100000 in
set_option maxHeartbeats 4000000 in
theorem bk_X3_isAtHand_28 (v0 : Nat) (v1 : Nat) (v2 : Int32) (w : rv_W) : rv_GO rc_X3_isAtHand 28 [some (.ref v0), some (.ref v1), some (.int v2)] [] w = ((rv_ri (rv_EV 210 [.ref v1] w)).bind fun q1 => (bif rv_cnd .ge v2 q1.1 then some (some (.int 1), q1.2) else ((rv_ldFI q1.2 v0 2 3).bind fun x2 => ((rv_ri (rv_EV 48 [.ref v0, .int (x2 + v2)] q1.2)).bind fun q3 => ((rv_ri (rv_EV 211 [.ref v1, .int v2] q3.2)).bind fun q4 => (bif rv_cnd .eq q3.1 q4.1 then rv_GO rc_X3_isAtHand 28 [some (.ref v0), some (.ref v1), some (.int (v2 + 1))] [] q4.2 else some (some (.int 0), q4.2))))))) := by
  rw [← rv_blk_eq [28] 18]
  rfl
set_option maxRecDepth 100000 in
set_option maxHeartbeats 4000000 in
theorem ev_X3_passWord (p : Nat) (n1 : Nat) (w : rv_W) (hp : (rv_obj w p 2).isSome = true) : rv_EV 45 [.ref p, .ref n1] w = ((rv_ri (rv_EV 44 [.ref p, .ref n1] w)).bind fun q1 => (bif rv_cnd .eq q1.1 0 then (bif rv_bz q1.1 then some (some (.int q1.1), q1.2) else none) else ((rv_rv (rv_EV 47 [.ref p] q1.2)).bind fun q2 => (bif rv_bz q1.1 then some (some (.int q1.1), q2) else none)))) := by
  have e : rv_EV 45 [.ref p, .ref n1] w = rv_GO rc_X3_passWord 0 [some (.ref p), some (.ref n1), none] [] w := by
    show cond ((rv_obj w p 2).isSome && true) _ _ = _
    rw [hp]
    rfl
  rw [e, ← rv_blk_eq [] 11]
  rfl
set_option maxRecDepth 100000 in
set_option maxHeartbeats 4000000 in
theorem ev_X3_passNumber (p : Nat) (n1 : Int32) (w : rv_W) (hp : (rv_obj w p 2).isSome = true) : rv_EV 46 [.ref p, .int n1] w = ((rv_ldFI w p 2 2).bind fun x1 => (bif rv_cnd .ne x1 2 then some (some (.int (-1)), w) else ((rv_ldFI w p 2 5).bind fun x2 => (bif rv_cnd .le x2 n1 then ((rv_ldFI w p 2 5).bind fun x3 => ((rv_rv (rv_EV 47 [.ref p] w)).bind fun q4 => some (some (.int x3), q4))) else some (some (.int (-1)), w))))) := by
  have e : rv_EV 46 [.ref p, .int n1] w = rv_GO rc_X3_passNumber 0 [some (.ref p), some (.int n1), none] [] w := by
    show cond ((rv_obj w p 2).isSome && true) _ _ = _
    rw [hp]
    rfl
  rw [e, ← rv_blk_eq [] 16]
  rfl
set_option maxRecDepth 100000 in
set_option maxHeartbeats 4000000 in
theorem ev_X3_readToken (p : Nat) (w : rv_W) (hp : (rv_obj w p 2).isSome = true) : rv_EV 47 [.ref p] w = ((rv_ldFI w p 2 4).bind fun x1 => ((rv_stF w p 2 3 (.int x1)).bind fun w2 => rv_GO rc_X3_readToken 8 [some (.ref p), none] [] w2)) := by
  have e : rv_EV 47 [.ref p] w = rv_GO rc_X3_readToken 0 [some (.ref p), none] [] w := by
    show cond ((rv_obj w p 2).isSome && true) _ _ = _
    rw [hp]
    rfl
  rw [e, ← rv_blk_eq [8, 45, 93, 148] 6]
  rfl
set_option maxRecDepth 100000 in
set_option maxHeartbeats 4000000 in
theorem bk_X3_readToken_8 (v0 : Nat) (w : rv_W) : rv_GO rc_X3_readToken 8 [some (.ref v0), none] [] w = ((rv_ldFI w v0 2 3).bind fun x1 => ((rv_ldFI w v0 2 1).bind fun x2 => (bif rv_cnd .ge x1 x2 then rv_GO rc_X3_readToken 45 [some (.ref v0), none] [] w else ((rv_ldFI w v0 2 3).bind fun x3 => ((rv_ri (rv_EV 48 [.ref v0, .int x3] w)).bind fun q4 => (bif rv_cnd .ne q4.1 32 then rv_GO rc_X3_readToken 45 [some (.ref v0), none] [] q4.2 else ((rv_ldFI q4.2 v0 2 3).bind fun x5 => ((rv_stF q4.2 v0 2 3 (.int (x5 + 1))).bind fun w6 => rv_GO rc_X3_readToken 8 [some (.ref v0), none] [] w6)))))))) := by
  rw [← rv_blk_eq [8, 45, 93, 148] 20]
  rfl
set_option maxRecDepth 100000 in
set_option maxHeartbeats 4000000 in
theorem bk_X3_readToken_45 (v0 : Nat) (w : rv_W) : rv_GO rc_X3_readToken 45 [some (.ref v0), none] [] w = ((rv_ldFI w v0 2 3).bind fun x1 => ((rv_stF w v0 2 4 (.int x1)).bind fun w2 => ((rv_ldFI w2 v0 2 3).bind fun x3 => ((rv_ri (rv_EV 48 [.ref v0, .int x3] w2)).bind fun q4 => ((rv_ldFI q4.2 v0 2 3).bind fun x5 => ((rv_ldFI q4.2 v0 2 1).bind fun x6 => (bif rv_cnd .lt x5 x6 then ((rv_ri (rv_EV 49 [.int q4.1] q4.2)).bind fun q7 => (bif rv_cnd .eq q7.1 0 then ((rv_ri (rv_EV 50 [.int q4.1] q7.2)).bind fun q8 => (bif rv_cnd .eq q8.1 0 then (bif rv_cnd .ne q4.1 59 then ((rv_stF q8.2 v0 2 2 (.int 4)).bind fun w9 => ((rv_ldFI w9 v0 2 4).bind fun x10 => ((rv_stF w9 v0 2 4 (.int (x10 + 1))).bind fun w11 => some (none, w11)))) else ((rv_stF q8.2 v0 2 2 (.int 3)).bind fun w12 => ((rv_ldFI w12 v0 2 4).bind fun x13 => ((rv_stF w12 v0 2 4 (.int (x13 + 1))).bind fun w14 => some (none, w14))))) else ((rv_stF q8.2 v0 2 2 (.int 2)).bind fun w15 => ((rv_stF w15 v0 2 5 (.int 0)).bind fun w16 => rv_GO rc_X3_readToken 148 [some (.ref v0), none] [] w16)))) else ((rv_stF q7.2 v0 2 2 (.int 1)).bind fun w17 => rv_GO rc_X3_readToken 93 [some (.ref v0), none] [] w17))) else ((rv_stF q4.2 v0 2 2 (.int 0)).bind fun w18 => some (none, w18))))))))) := by
  rw [← rv_blk_eq [8, 45, 93, 148] 35]
  rfl
set_option maxRecDepth 100000 in
set_option maxHeartbeats 4000000 in
theorem bk_X3_readToken_93 (v0 : Nat) (w : rv_W) : rv_GO rc_X3_readToken 93 [some (.ref v0), none] [] w = ((rv_ldFI w v0 2 4).bind fun x1 => ((rv_ldFI w v0 2 1).bind fun x2 => (bif rv_cnd .ge x1 x2 then some (none, w) else ((rv_ldFI w v0 2 4).bind fun x3 => ((rv_ri (rv_EV 48 [.ref v0, .int x3] w)).bind fun q4 => ((rv_ri (rv_EV 49 [.int q4.1] q4.2)).bind fun q5 => (bif rv_cnd .eq q5.1 0 then some (none, q5.2) else ((rv_ldFI q5.2 v0 2 4).bind fun x6 => ((rv_stF q5.2 v0 2 4 (.int (x6 + 1))).bind fun w7 => rv_GO rc_X3_readToken 93 [some (.ref v0), none] [] w7))))))))) := by
  rw [← rv_blk_eq [8, 45, 93, 148] 20]
  rfl
set_option maxRecDepth 100000 in
set_option maxHeartbeats 4000000 in
theorem bk_X3_readToken_148 (v0 : Nat) (w : rv_W) : rv_GO rc_X3_readToken 148 [some (.ref v0), none] [] w = ((rv_ldFI w v0 2 4).bind fun x1 => ((rv_ldFI w v0 2 1).bind fun x2 => (bif rv_cnd .ge x1 x2 then some (none, w) else ((rv_ldFI w v0 2 4).bind fun x3 => ((rv_ri (rv_EV 48 [.ref v0, .int x3] w)).bind fun q4 => ((rv_ri (rv_EV 50 [.int q4.1] q4.2)).bind fun q5 => (bif rv_cnd .eq q5.1 0 then some (none, q5.2) else ((rv_ldFI q5.2 v0 2 5).bind fun x6 => ((rv_ldFI q5.2 v0 2 4).bind fun x7 => ((rv_ri (rv_EV 48 [.ref v0, .int x7] q5.2)).bind fun q8 => ((rv_stF q8.2 v0 2 5 (.int (rv_min (((x6 * 10) + q8.1) - 48) 10000))).bind fun w9 => ((rv_ldFI w9 v0 2 4).bind fun x10 => ((rv_stF w9 v0 2 4 (.int (x10 + 1))).bind fun w11 => rv_GO rc_X3_readToken 148 [some (.ref v0), none] [] w11))))))))))))) := by
  rw [← rv_blk_eq [8, 45, 93, 148] 35]
  rfl
set_option maxRecDepth 100000 in
set_option maxHeartbeats 4000000 in
theorem ev_X3_byteAt (p : Nat) (n1 : Int32) (w : rv_W) (hp : (rv_obj w p 2).isSome = true) : rv_EV 48 [.ref p, .int n1] w = (bif rv_cnd .lt n1 0 then some (some (.int (-1)), w) else ((rv_ldFI w p 2 1).bind fun x1 => (bif rv_cnd .ge n1 x1 then some (some (.int (-1)), w) else ((rv_ldFR w p 2 0).bind fun a2 => ((rv_ldB w a2 n1).bind fun x3 => some (some (.int x3), w)))))) := by
  have e : rv_EV 48 [.ref p, .int n1] w = rv_GO rc_X3_byteAt 0 [some (.ref p), some (.int n1)] [] w := by
    show cond ((rv_obj w p 2).isSome && true) _ _ = _
    rw [hp]
    rfl
  rw [e, ← rv_blk_eq [] 13]
  rfl
set_option maxRecDepth 100000 in
set_option maxHeartbeats 4000000 in
theorem ev_X3_isLetter (n1 : Int32) (w : rv_W) : rv_EV 49 [.int n1] w = (bif rv_cnd .lt n1 97 then some (some (.int 0), w) else (bif rv_cnd .gt n1 122 then some (some (.int 0), w) else some (some (.int 1), w))) := by
  have e : rv_EV 49 [.int n1] w = rv_GO rc_X3_isLetter 0 [some (.int n1)] [] w := by
    rfl
  rw [e, ← rv_blk_eq [] 10]
  rfl
set_option maxRecDepth 100000 in
set_option maxHeartbeats 4000000 in
theorem ev_X3_isDigit (n1 : Int32) (w : rv_W) : rv_EV 50 [.int n1] w = (bif rv_cnd .lt n1 48 then some (some (.int 0), w) else (bif rv_cnd .gt n1 57 then some (some (.int 0), w) else some (some (.int 1), w))) := by
  have e : rv_EV 50 [.int n1] w = rv_GO rc_X3_isDigit 0 [some (.int n1)] [] w := by
    rfl
  rw [e, ← rv_blk_eq [] 10]
  rfl
