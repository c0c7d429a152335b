set_option maxRecDepth 100000 in
set_option maxHeartbeats 4000000 in
theorem ev_X4_warm (p : Nat) (n1 : Int32) (n2 : Int32) (w : rv_W) (hp : (rv_obj w p 3).isSome = true) : rv_EV 51 [.ref p, .int n1, .int n2] w = ((rv_ri (rv_EV 97 [.int n1] w)).bind fun q1 => (bif rv_cnd .eq q1.1 0 then ((rv_ri (rv_EV 95 [.ref p, .int 0] q1.2)).bind fun q2 => some (some (.int q2.1), q2.2)) else ((rv_ri (rv_EV 96 [.int n2, .int 99] q1.2)).bind fun q3 => (bif rv_cnd .ne q3.1 0 then ((rv_ldFR q3.2 p 3 0).bind fun a4 => ((rv_ldFR q3.2 a4 1 0).bind fun a5 => ((rv_ldI q3.2 a5 n1).bind fun x6 => ((rv_ldFR q3.2 p 3 0).bind fun a7 => ((rv_ldFR q3.2 a7 1 0).bind fun a8 => ((rv_stI q3.2 a8 n1 n2).bind fun w9 => some (some (.int x6), w9))))))) else ((rv_ri (rv_EV 95 [.ref p, .int 0] q3.2)).bind fun q10 => some (some (.int q10.1), q10.2)))))) := by
  have e : rv_EV 51 [.ref p, .int n1, .int n2] w = rv_GO rc_X4_warm 0 [some (.ref p), some (.int n1), some (.int n2), none] [] w := by
    show cond ((rv_obj w p 3).isSome && true) _ _ = _
    rw [hp]
    rfl
  rw [e, ← rv_blk_eq [] 22]
  rfl
set_option maxRecDepth 100000 in
set_option maxHeartbeats 4000000 in
theorem ev_X4_scent (p : Nat) (n1 : Int32) (n2 : Int32) (n3 : Int32) (w : rv_W) (hp : (rv_obj w p 3).isSome = true) : rv_EV 52 [.ref p, .int n1, .int n2, .int n3] w = ((rv_ri (rv_EV 97 [.int n1] w)).bind fun q1 => (bif rv_cnd .eq q1.1 0 then ((rv_ri (rv_EV 95 [.ref p, .int 0] q1.2)).bind fun q2 => some (some (.int q2.1), q2.2)) else ((rv_ri (rv_EV 98 [.int n2] q1.2)).bind fun q3 => (bif rv_cnd .eq q3.1 0 then ((rv_ri (rv_EV 95 [.ref p, .int 0] q3.2)).bind fun q4 => some (some (.int q4.1), q4.2)) else ((rv_ri (rv_EV 96 [.int n3, .int 9999] q3.2)).bind fun q5 => (bif rv_cnd .ne q5.1 0 then ((rv_ldFR q5.2 p 3 0).bind fun a6 => ((rv_ri (rv_EV 15 [.ref a6, .int n1, .int n2] q5.2)).bind fun q7 => ((rv_ldFR q7.2 p 3 0).bind fun a8 => ((rv_rv (rv_EV 16 [.ref a8, .int n1, .int n2, .int n3] q7.2)).bind fun q9 => some (some (.int q7.1), q9))))) else ((rv_ri (rv_EV 95 [.ref p, .int 0] q5.2)).bind fun q10 => some (some (.int q10.1), q10.2)))))))) := by
  have e : rv_EV 52 [.ref p, .int n1, .int n2, .int n3] w = rv_GO rc_X4_scent 0 [some (.ref p), some (.int n1), some (.int n2), some (.int n3), none] [] w := by
    show cond ((rv_obj w p 3).isSome && true) _ _ = _
    rw [hp]
    rfl
  rw [e, ← rv_blk_eq [] 25]
  rfl
set_option maxRecDepth 100000 in
set_option maxHeartbeats 4000000 in
theorem ev_X4_tub (p : Nat) (n1 : Int32) (n2 : Int32) (w : rv_W) (hp : (rv_obj w p 3).isSome = true) : rv_EV 53 [.ref p, .int n1, .int n2] w = ((rv_ri (rv_EV 97 [.int n1] w)).bind fun q1 => (bif rv_cnd .eq q1.1 0 then ((rv_ri (rv_EV 95 [.ref p, .int 0] q1.2)).bind fun q2 => some (some (.int q2.1), q2.2)) else ((rv_ri (rv_EV 96 [.int n2, .int 6] q1.2)).bind fun q3 => (bif rv_cnd .ne q3.1 0 then (bif rv_eq n2 (Int32.ofInt 4) then ((rv_ldFR q3.2 p 3 0).bind fun a10 => ((rv_ldFR q3.2 a10 1 0).bind fun a11 => ((rv_ldI q3.2 a11 n1).bind fun x12 => some (some (.int x12), q3.2)))) else (bif rv_eq n2 (Int32.ofInt 5) then ((rv_ldFR q3.2 p 3 0).bind fun a8 => ((rv_ri (rv_EV 28 [.ref a8, .int n1] q3.2)).bind fun q9 => some (some (.int q9.1), q9.2))) else (bif rv_eq n2 (Int32.ofInt 6) then ((rv_ldFR q3.2 p 3 0).bind fun a6 => ((rv_ri (rv_EV 17 [.ref a6, .int n1] q3.2)).bind fun q7 => some (some (.int q7.1), q7.2))) else ((rv_ldFR q3.2 p 3 0).bind fun a4 => ((rv_ri (rv_EV 15 [.ref a4, .int n1, .int n2] q3.2)).bind fun q5 => some (some (.int q5.1), q5.2)))))) else ((rv_ri (rv_EV 95 [.ref p, .int 0] q3.2)).bind fun q13 => some (some (.int q13.1), q13.2)))))) := by
  have e : rv_EV 53 [.ref p, .int n1, .int n2] w = rv_GO rc_X4_tub 0 [some (.ref p), some (.int n1), some (.int n2)] [] w := by
    show cond ((rv_obj w p 3).isSome && true) _ _ = _
    rw [hp]
    rfl
  rw [e, ← rv_blk_eq [] 16]
  rfl
set_option maxRecDepth 100000 in
set_option maxHeartbeats 4000000 in
theorem ev_X4_fresh (p : Nat) (n1 : Int32) (w : rv_W) (hp : (rv_obj w p 3).isSome = true) : rv_EV 54 [.ref p, .int n1] w = ((rv_ri (rv_EV 96 [.int n1, .int 99] w)).bind fun q1 => (bif rv_cnd .ne q1.1 0 then ((rv_ldFR q1.2 p 3 0).bind fun a2 => ((rv_ldFI q1.2 a2 1 8).bind fun x3 => ((rv_ldFR q1.2 p 3 0).bind fun a4 => ((rv_stF q1.2 a4 1 8 (.int n1)).bind fun w5 => some (some (.int x3), w5))))) else ((rv_ri (rv_EV 95 [.ref p, .int 0] q1.2)).bind fun q6 => some (some (.int q6.1), q6.2)))) := by
  have e : rv_EV 54 [.ref p, .int n1] w = rv_GO rc_X4_fresh 0 [some (.ref p), some (.int n1), none] [] w := by
    show cond ((rv_obj w p 3).isSome && true) _ _ = _
    rw [hp]
    rfl
  rw [e, ← rv_blk_eq [] 15]
  rfl
set_option maxRecDepth 100000 in
set_option maxHeartbeats 4000000 in
theorem ev_X4_plug (p : Nat) (n1 : Int32) (w : rv_W) (hp : (rv_obj w p 3).isSome = true) : rv_EV 55 [.ref p, .int n1] w = ((rv_ri (rv_EV 97 [.int n1] w)).bind fun q1 => (bif rv_cnd .ne q1.1 0 then ((rv_ldFR q1.2 p 3 0).bind fun a2 => ((rv_ri (rv_EV 17 [.ref a2, .int n1] q1.2)).bind fun q3 => ((rv_ldFR q3.2 p 3 0).bind fun a4 => ((rv_rv (rv_EV 18 [.ref a4, .int n1] q3.2)).bind fun q5 => some (some (.int q3.1), q5))))) else ((rv_ri (rv_EV 95 [.ref p, .int 0] q1.2)).bind fun q6 => some (some (.int q6.1), q6.2)))) := by
  have e : rv_EV 55 [.ref p, .int n1] w = rv_GO rc_X4_plug 0 [some (.ref p), some (.int n1), none] [] w := by
    show cond ((rv_obj w p 3).isSome && true) _ _ = _
    rw [hp]
    rfl
  rw [e, ← rv_blk_eq [] 15]
  rfl
set_option maxRecDepth 100000 in
set_option maxHeartbeats 4000000 in
theorem ev_X4_bather (p : Nat) (n1 : Int32) (n2 : Int32) (w : rv_W) (hp : (rv_obj w p 3).isSome = true) : rv_EV 56 [.ref p, .int n1, .int n2] w = ((rv_ri (rv_EV 0 [.int n1] w)).bind fun q1 => (bif rv_cnd .eq q1.1 0 then ((rv_ri (rv_EV 95 [.ref p, .int 0] q1.2)).bind fun q2 => some (some (.int q2.1), q2.2)) else ((rv_ri (rv_EV 97 [.int n2] q1.2)).bind fun q3 => (bif rv_cnd .ne q3.1 0 then ((rv_ldFR q3.2 p 3 0).bind fun a4 => ((rv_ri (rv_EV 11 [.ref a4] q3.2)).bind fun q5 => (bif rv_cnd .eq q5.1 0 then ((rv_ldFR q5.2 p 3 0).bind fun a6 => ((rv_ri (rv_EV 12 [.ref a6, .int n1, .int n2, .int 0, .int 0] q5.2)).bind fun q7 => some (some (.int q7.1), q7.2))) else ((rv_ri (rv_EV 95 [.ref p, .int 1] q5.2)).bind fun q8 => some (some (.int q8.1), q8.2))))) else ((rv_ri (rv_EV 95 [.ref p, .int 0] q3.2)).bind fun q9 => some (some (.int q9.1), q9.2)))))) := by
  have e : rv_EV 56 [.ref p, .int n1, .int n2] w = rv_GO rc_X4_bather 0 [some (.ref p), some (.int n1), some (.int n2)] [] w := by
    show cond ((rv_obj w p 3).isSome && true) _ _ = _
    rw [hp]
    rfl
  rw [e, ← rv_blk_eq [] 19]
  rfl
set_option maxRecDepth 100000 in
set_option maxHeartbeats 4000000 in
theorem ev_X4_of (p : Nat) (n1 : Int32) (n2 : Int32) (w : rv_W) (hp : (rv_obj w p 3).isSome = true) : rv_EV 57 [.ref p, .int n1, .int n2] w = ((rv_ldFR w p 3 0).bind fun a1 => ((rv_ri (rv_EV 10 [.ref a1, .int n1] w)).bind fun q2 => (bif rv_cnd .eq q2.1 0 then ((rv_ri (rv_EV 95 [.ref p, .int 0] q2.2)).bind fun q3 => some (some (.int q3.1), q3.2)) else ((rv_ri (rv_EV 96 [.int n2, .int 7] q2.2)).bind fun q4 => (bif rv_cnd .ne q4.1 0 then (bif rv_eq n2 (Int32.ofInt 0) then ((rv_ldFR q4.2 p 3 0).bind fun a26 => ((rv_ldFR q4.2 a26 1 2).bind fun a27 => ((rv_ldI q4.2 a27 n1).bind fun x28 => some (some (.int x28), q4.2)))) else (bif rv_eq n2 (Int32.ofInt 1) then ((rv_ldFR q4.2 p 3 0).bind fun a23 => ((rv_ldFR q4.2 a23 1 3).bind fun a24 => ((rv_ldI q4.2 a24 n1).bind fun x25 => some (some (.int x25), q4.2)))) else (bif rv_eq n2 (Int32.ofInt 2) then ((rv_ldFR q4.2 p 3 0).bind fun a20 => ((rv_ldFR q4.2 a20 1 4).bind fun a21 => ((rv_ldI q4.2 a21 n1).bind fun x22 => some (some (.int x22), q4.2)))) else (bif rv_eq n2 (Int32.ofInt 3) then ((rv_ldFR q4.2 p 3 0).bind fun a17 => ((rv_ldFR q4.2 a17 1 5).bind fun a18 => ((rv_ldI q4.2 a18 n1).bind fun x19 => some (some (.int x19), q4.2)))) else (bif rv_eq n2 (Int32.ofInt 4) then ((rv_ldFR q4.2 p 3 0).bind fun a15 => ((rv_ri (rv_EV 26 [.ref a15, .int n1] q4.2)).bind fun q16 => some (some (.int q16.1), q16.2))) else (bif rv_eq n2 (Int32.ofInt 5) then ((rv_ldFR q4.2 p 3 0).bind fun a11 => ((rv_ldFR q4.2 a11 1 2).bind fun a12 => ((rv_ldI q4.2 a12 n1).bind fun x13 => ((rv_ri (rv_EV 3 [.int x13] q4.2)).bind fun q14 => some (some (.int q14.1), q14.2))))) else (bif rv_eq n2 (Int32.ofInt 6) then ((rv_ldFR q4.2 p 3 0).bind fun a7 => ((rv_ldFR q4.2 a7 1 2).bind fun a8 => ((rv_ldI q4.2 a8 n1).bind fun x9 => ((rv_ri (rv_EV 4 [.int x9] q4.2)).bind fun q10 => some (some (.int q10.1), q10.2))))) else ((rv_ldFR q4.2 p 3 0).bind fun a5 => ((rv_ri (rv_EV 27 [.ref a5, .int n1] q4.2)).bind fun q6 => some (some (.int q6.1), q6.2)))))))))) else ((rv_ri (rv_EV 95 [.ref p, .int 0] q4.2)).bind fun q29 => some (some (.int q29.1), q29.2))))))) := by
  have e : rv_EV 57 [.ref p, .int n1, .int n2] w = rv_GO rc_X4_of 0 [some (.ref p), some (.int n1), some (.int n2)] [] w := by
    show cond ((rv_obj w p 3).isSome && true) _ _ = _
    rw [hp]
    rfl
  rw [e, ← rv_blk_eq [] 19]
  rfl
set_option maxRecDepth 100000 in
set_option maxHeartbeats 4000000 in
theorem ev_X4_change (p : Nat) (n1 : Int32) (n2 : Int32) (n3 : Int32) (w : rv_W) (hp : (rv_obj w p 3).isSome = true) : rv_EV 58 [.ref p, .int n1, .int n2, .int n3] w = ((rv_ldFR w p 3 0).bind fun a1 => ((rv_ri (rv_EV 10 [.ref a1, .int n1] w)).bind fun q2 => (bif rv_cnd .eq q2.1 0 then ((rv_ri (rv_EV 95 [.ref p, .int 0] q2.2)).bind fun q3 => some (some (.int q3.1), q3.2)) else ((rv_ri (rv_EV 96 [.int n2, .int 3] q2.2)).bind fun q4 => (bif rv_cnd .eq q4.1 0 then ((rv_ri (rv_EV 95 [.ref p, .int 0] q4.2)).bind fun q5 => some (some (.int q5.1), q5.2)) else ((rv_ri (rv_EV 101 [.int n2] q4.2)).bind fun q6 => ((rv_ri (rv_EV 96 [.int n3, .int q6.1] q6.2)).bind fun q7 => (bif rv_cnd .ne q7.1 0 then ((rv_ldFR q7.2 p 3 0).bind fun a8 => ((rv_rr (rv_EV 13 [.ref a8, .int n2] q7.2)).bind fun q9 => ((rv_ldI q9.2 q9.1 n1).bind fun x10 => ((rv_stI q9.2 q9.1 n1 n3).bind fun w11 => some (some (.int x10), w11))))) else ((rv_ri (rv_EV 95 [.ref p, .int 0] q7.2)).bind fun q12 => some (some (.int q12.1), q12.2)))))))))) := by
  have e : rv_EV 58 [.ref p, .int n1, .int n2, .int n3] w = rv_GO rc_X4_change 0 [some (.ref p), some (.int n1), some (.int n2), some (.int n3), none, none] [] w := by
    show cond ((rv_obj w p 3).isSome && true) _ _ = _
    rw [hp]
    rfl
  rw [e, ← rv_blk_eq [] 30]
  rfl
set_option maxRecDepth 100000 in
set_option maxHeartbeats 4000000 in
theorem ev_X4_swap (p : Nat) (n1 : Int32) (n2 : Int32) (w : rv_W) (hp : (rv_obj w p 3).isSome = true) : rv_EV 59 [.ref p, .int n1, .int n2] w = ((rv_ldFR w p 3 0).bind fun a1 => ((rv_ri (rv_EV 10 [.ref a1, .int n1] w)).bind fun q2 => (bif rv_cnd .eq q2.1 0 then ((rv_ri (rv_EV 95 [.ref p, .int 0] q2.2)).bind fun q3 => some (some (.int q3.1), q3.2)) else ((rv_ldFR q2.2 p 3 0).bind fun a4 => ((rv_ri (rv_EV 10 [.ref a4, .int n2] q2.2)).bind fun q5 => (bif rv_cnd .eq q5.1 0 then ((rv_ri (rv_EV 95 [.ref p, .int 0] q5.2)).bind fun q6 => some (some (.int q6.1), q6.2)) else (bif rv_cnd .ne n1 n2 then ((rv_ldFR q5.2 p 3 0).bind fun a7 => ((rv_ldFR q5.2 a7 1 3).bind fun a8 => ((rv_ldI q5.2 a8 n1).bind fun x9 => ((rv_ldFR q5.2 p 3 0).bind fun a10 => ((rv_ldFR q5.2 a10 1 3).bind fun a11 => ((rv_ldI q5.2 a11 n2).bind fun x12 => (bif rv_cnd .eq x9 x12 then rv_GO rc_X4_swap 59 [some (.ref p), some (.int n1), some (.int n2), none] [.int 0] q5.2 else rv_GO rc_X4_swap 59 [some (.ref p), some (.int n1), some (.int n2), none] [.int 1] q5.2))))))) else ((rv_ri (rv_EV 95 [.ref p, .int 0] q5.2)).bind fun q13 => some (some (.int q13.1), q13.2))))))))) := by
  have e : rv_EV 59 [.ref p, .int n1, .int n2] w = rv_GO rc_X4_swap 0 [some (.ref p), some (.int n1), some (.int n2), none] [] w := by
    show cond ((rv_obj w p 3).isSome && true) _ _ = _
    rw [hp]
    rfl
  rw [e, ← rv_blk_eq [59] 28]
  rfl
set_option maxRecDepth 100000 in
set_option maxHeartbeats 4000000 in
theorem bk_X4_swap_59 (v0 : Nat) (v1 : Int32) (v2 : Int32) (s0 : Int32) (w : rv_W) : rv_GO rc_X4_swap 59 [some (.ref v0), some (.int v1), some (.int v2), none] [.int s0] w = ((rv_ldFR w v0 3 0).bind fun a1 => ((rv_rv (rv_EV 14 [.ref a1, .int v1, .int v2] w)).bind fun q2 => (bif rv_cnd .eq s0 0 then some (some (.int 0), q2) else some (some (.int 1), q2)))) := by
  rw [← rv_blk_eq [59] 12]
  rfl
set_option maxRecDepth 100000 in
set_option maxHeartbeats 4000000 in
theorem ev_X4_go (p : Nat) (n1 : Int32) (w : rv_W) (hp : (rv_obj w p 3).isSome = true) : rv_EV 60 [.ref p, .int n1] w = (bif rv_cnd .lt n1 1 then ((rv_ri (rv_EV 95 [.ref p, .int 0] w)).bind fun q1 => some (some (.int q1.1), q1.2)) else (bif rv_cnd .le n1 40 then ((rv_ldFR w p 3 0).bind fun a2 => ((rv_ldFI w a2 1 9).bind fun x3 => (bif rv_cnd .le x3 (99999 - n1) then ((rv_ldFR w p 3 0).bind fun a4 => ((rv_rv (rv_EV 20 [.ref a4, .int n1] w)).bind fun q5 => ((rv_ldFR q5 p 3 0).bind fun a6 => ((rv_ldFR q5 a6 1 0).bind fun a7 => ((rv_ldI q5 a7 9).bind fun x8 => some (some (.int x8), q5)))))) else ((rv_ri (rv_EV 95 [.ref p, .int 4] w)).bind fun q9 => some (some (.int q9.1), q9.2))))) else ((rv_ri (rv_EV 95 [.ref p, .int 0] w)).bind fun q10 => some (some (.int q10.1), q10.2)))) := by
  have e : rv_EV 60 [.ref p, .int n1] w = rv_GO rc_X4_go 0 [some (.ref p), some (.int n1)] [] w := by
    show cond ((rv_obj w p 3).isSome && true) _ _ = _
    rw [hp]
    rfl
  rw [e, ← rv_blk_eq [] 24]
  rfl
set_option maxRecDepth 100000 in
set_option maxHeartbeats 4000000 in
theorem ev_X4_now (p : Nat) (n1 : Int32) (w : rv_W) (hp : (rv_obj w p 3).isSome = true) : rv_EV 61 [.ref p, .int n1] w = ((rv_ri (rv_EV 96 [.int n1, .int 5] w)).bind fun q1 => (bif rv_cnd .ne q1.1 0 then (bif rv_eq n1 (Int32.ofInt 1) then ((rv_ldFR q1.2 p 3 0).bind fun a12 => ((rv_ri (rv_EV 35 [.ref a12] q1.2)).bind fun q13 => some (some (.int q13.1), q13.2))) else (bif rv_eq n1 (Int32.ofInt 2) then ((rv_ldFR q1.2 p 3 0).bind fun a10 => ((rv_ri (rv_EV 36 [.ref a10] q1.2)).bind fun q11 => some (some (.int q11.1), q11.2))) else (bif rv_eq n1 (Int32.ofInt 3) then ((rv_ldFR q1.2 p 3 0).bind fun a8 => ((rv_ri (rv_EV 33 [.ref a8, .int 40] q1.2)).bind fun q9 => some (some (.int q9.1), q9.2))) else (bif rv_eq n1 (Int32.ofInt 4) then ((rv_ldFR q1.2 p 3 0).bind fun a6 => ((rv_ri (rv_EV 30 [.ref a6] q1.2)).bind fun q7 => some (some (.int q7.1), q7.2))) else (bif rv_eq n1 (Int32.ofInt 5) then ((rv_ldFR q1.2 p 3 0).bind fun a4 => ((rv_ri (rv_EV 31 [.ref a4] q1.2)).bind fun q5 => some (some (.int q5.1), q5.2))) else ((rv_ldFR q1.2 p 3 0).bind fun a2 => ((rv_ldFI q1.2 a2 1 9).bind fun x3 => some (some (.int x3), q1.2)))))))) else ((rv_ri (rv_EV 95 [.ref p, .int 0] q1.2)).bind fun q14 => some (some (.int q14.1), q14.2)))) := by
  have e : rv_EV 61 [.ref p, .int n1] w = rv_GO rc_X4_now 0 [some (.ref p), some (.int n1)] [] w := by
    show cond ((rv_obj w p 3).isSome && true) _ _ = _
    rw [hp]
    rfl
  rw [e, ← rv_blk_eq [] 12]
  rfl
set_option maxRecDepth 100000 in
set_option maxHeartbeats 4000000 in
theorem ev_X4_ahead (p : Nat) (n1 : Int32) (n2 : Int32) (n3 : Int32) (w : rv_W) (hp : (rv_obj w p 3).isSome = true) : rv_EV 62 [.ref p, .int n1, .int n2, .int n3] w = ((rv_ri (rv_EV 97 [.int n1] w)).bind fun q1 => (bif rv_cnd .eq q1.1 0 then ((rv_ri (rv_EV 95 [.ref p, .int 0] q1.2)).bind fun q2 => some (some (.int q2.1), q2.2)) else ((rv_ri (rv_EV 96 [.int n2, .int 4] q1.2)).bind fun q3 => (bif rv_cnd .eq q3.1 0 then ((rv_ri (rv_EV 95 [.ref p, .int 0] q3.2)).bind fun q4 => some (some (.int q4.1), q4.2)) else ((rv_ri (rv_EV 96 [.int n3, .int 60] q3.2)).bind fun q5 => (bif rv_cnd .ne q5.1 0 then ((rv_ldFR q5.2 p 3 2).bind fun a6 => ((rv_ldFR q5.2 p 3 0).bind fun a7 => ((rv_rv (rv_EV 9 [.ref a6, .ref a7] q5.2)).bind fun q8 => ((rv_ldFR q8 p 3 2).bind fun a9 => ((rv_rv (rv_EV 20 [.ref a9, .int n3] q8)).bind fun q10 => (bif rv_cnd .ne n2 4 then ((rv_ldFR q10 p 3 2).bind fun a11 => ((rv_ri (rv_EV 15 [.ref a11, .int n1, .int n2] q10)).bind fun q12 => some (some (.int q12.1), q12.2))) else ((rv_ldFR q10 p 3 2).bind fun a13 => ((rv_ldFR q10 a13 1 0).bind fun a14 => ((rv_ldI q10 a14 n1).bind fun x15 => some (some (.int x15), q10)))))))))) else ((rv_ri (rv_EV 95 [.ref p, .int 0] q5.2)).bind fun q16 => some (some (.int q16.1), q16.2)))))))) := by
  have e : rv_EV 62 [.ref p, .int n1, .int n2, .int n3] w = rv_GO rc_X4_ahead 0 [some (.ref p), some (.int n1), some (.int n2), some (.int n3)] [] w := by
    show cond ((rv_obj w p 3).isSome && true) _ _ = _
    rw [hp]
    rfl
  rw [e, ← rv_blk_eq [] 31]
  rfl
set_option maxRecDepth 100000 in
set_option maxHeartbeats 4000000 in
theorem ev_X4_knows (p : Nat) (n1 : Int32) (n2 : Int32) (w : rv_W) (hp : (rv_obj w p 3).isSome = true) : rv_EV 63 [.ref p, .int n1, .int n2] w = ((rv_ldFR w p 3 0).bind fun a1 => ((rv_ri (rv_EV 10 [.ref a1, .int n1] w)).bind fun q2 => (bif rv_cnd .eq q2.1 0 then ((rv_ri (rv_EV 95 [.ref p, .int 0] q2.2)).bind fun q3 => some (some (.int q3.1), q3.2)) else ((rv_ri (rv_EV 96 [.int n2, .int 60] q2.2)).bind fun q4 => (bif rv_cnd .ne q4.1 0 then ((rv_ldFR q4.2 p 3 2).bind fun a5 => ((rv_ldFR q4.2 p 3 0).bind fun a6 => ((rv_rv (rv_EV 9 [.ref a5, .ref a6] q4.2)).bind fun q7 => ((rv_ldFR q7 p 3 2).bind fun a8 => ((rv_rv (rv_EV 20 [.ref a8, .int n2] q7)).bind fun q9 => ((rv_ldFR q9 p 3 2).bind fun a10 => ((rv_ldFR q9 a10 1 5).bind fun a11 => ((rv_ldI q9 a11 n1).bind fun x12 => some (some (.int x12), q9))))))))) else ((rv_ri (rv_EV 95 [.ref p, .int 0] q4.2)).bind fun q13 => some (some (.int q13.1), q13.2))))))) := by
  have e : rv_EV 63 [.ref p, .int n1, .int n2] w = rv_GO rc_X4_knows 0 [some (.ref p), some (.int n1), some (.int n2)] [] w := by
    show cond ((rv_obj w p 3).isSome && true) _ _ = _
    rw [hp]
    rfl
  rw [e, ← rv_blk_eq [] 25]
  rfl
set_option maxRecDepth 100000 in
set_option maxHeartbeats 4000000 in
theorem ev_X4_when (p : Nat) (n1 : Int32) (n2 : Int32) (w : rv_W) (hp : (rv_obj w p 3).isSome = true) : rv_EV 64 [.ref p, .int n1, .int n2] w = ((rv_ldFR w p 3 0).bind fun a1 => ((rv_ri (rv_EV 10 [.ref a1, .int n1] w)).bind fun q2 => (bif rv_cnd .eq q2.1 0 then ((rv_ri (rv_EV 95 [.ref p, .int 0] q2.2)).bind fun q3 => some (some (.int q3.1), q3.2)) else ((rv_ri (rv_EV 98 [.int n2] q2.2)).bind fun q4 => (bif rv_cnd .ne q4.1 0 then ((rv_ldFR q4.2 p 3 2).bind fun a5 => ((rv_ldFR q4.2 p 3 0).bind fun a6 => ((rv_rv (rv_EV 9 [.ref a5, .ref a6] q4.2)).bind fun q7 => ((rv_ri (rv_EV 104 [.ref p, .int n1, .int n2, .int 60] q7)).bind fun q8 => (bif rv_cnd .ge q8.1 0 then some (some (.int q8.1), q8.2) else ((rv_ri (rv_EV 95 [.ref p, .int 3] q8.2)).bind fun q9 => some (some (.int q9.1), q9.2))))))) else ((rv_ri (rv_EV 95 [.ref p, .int 0] q4.2)).bind fun q10 => some (some (.int q10.1), q10.2))))))) := by
  have e : rv_EV 64 [.ref p, .int n1, .int n2] w = rv_GO rc_X4_when 0 [some (.ref p), some (.int n1), some (.int n2), none] [] w := by
    show cond ((rv_obj w p 3).isSome && true) _ _ = _
    rw [hp]
    rfl
  rw [e, ← rv_blk_eq [] 27]
  rfl
set_option maxRecDepth 100000 in
set_option maxHeartbeats 4000000 in
theorem ev_X4_cold (p : Nat) (n1 : Int32) (n2 : Int32) (w : rv_W) (hp : (rv_obj w p 3).isSome = true) : rv_EV 65 [.ref p, .int n1, .int n2] w = ((rv_ri (rv_EV 97 [.int n1] w)).bind fun q1 => (bif rv_cnd .eq q1.1 0 then ((rv_ri (rv_EV 95 [.ref p, .int 0] q1.2)).bind fun q2 => some (some (.int q2.1), q2.2)) else ((rv_ri (rv_EV 96 [.int n2, .int 99] q1.2)).bind fun q3 => (bif rv_cnd .ne q3.1 0 then ((rv_ldFR q3.2 p 3 2).bind fun a4 => ((rv_ldFR q3.2 p 3 0).bind fun a5 => ((rv_rv (rv_EV 9 [.ref a4, .ref a5] q3.2)).bind fun q6 => rv_GO rc_X4_cold 35 [some (.ref p), some (.int n1), some (.int n2), some (.int 0)] [] q6))) else ((rv_ri (rv_EV 95 [.ref p, .int 0] q3.2)).bind fun q7 => some (some (.int q7.1), q7.2)))))) := by
  have e : rv_EV 65 [.ref p, .int n1, .int n2] w = rv_GO rc_X4_cold 0 [some (.ref p), some (.int n1), some (.int n2), none] [] w := by
    show cond ((rv_obj w p 3).isSome && true) _ _ = _
    rw [hp]
    rfl
  rw [e, ← rv_blk_eq [35] 16]
  rfl
set_option maxRecDepth 100000 in
set_option maxHeartbeats 4000000 in
theorem bk_X4_cold_35 (v0 : Nat) (v1 : Int32) (v2 : Int32) (v3 : Int32) (w : rv_W) : rv_GO rc_X4_cold 35 [some (.ref v0), some (.int v1), some (.int v2), some (.int v3)] [] w = (bif rv_cnd .gt v3 60 then ((rv_ri (rv_EV 95 [.ref v0, .int 3] w)).bind fun q1 => some (some (.int q1.1), q1.2)) else ((rv_ldFR w v0 3 2).bind fun a2 => ((rv_ldFR w a2 1 0).bind fun a3 => ((rv_ldI w a3 v1).bind fun x4 => (bif rv_cnd .ge x4 v2 then ((rv_ldFR w v0 3 2).bind fun a5 => ((rv_rv (rv_EV 21 [.ref a5] w)).bind fun q6 => rv_GO rc_X4_cold 35 [some (.ref v0), some (.int v1), some (.int v2), some (.int (v3 + 1))] [] q6)) else some (some (.int v3), w)))))) := by
  rw [← rv_blk_eq [35] 17]
  rfl
set_option maxRecDepth 100000 in
set_option maxHeartbeats 4000000 in
theorem ev_X4_left (p : Nat) (n1 : Int32) (n2 : Int32) (w : rv_W) (hp : (rv_obj w p 3).isSome = true) : rv_EV 66 [.ref p, .int n1, .int n2] w = ((rv_ri (rv_EV 96 [.int n1, .int 9999] w)).bind fun q1 => (bif rv_cnd .eq q1.1 0 then ((rv_ri (rv_EV 95 [.ref p, .int 0] q1.2)).bind fun q2 => some (some (.int q2.1), q2.2)) else ((rv_ri (rv_EV 96 [.int n2, .int 9] q1.2)).bind fun q3 => (bif rv_cnd .ne q3.1 0 then rv_GO rc_X4_left 30 [none, none, some (.int n2), some (.int n1), some (.int 0)] [] q3.2 else ((rv_ri (rv_EV 95 [.ref p, .int 0] q3.2)).bind fun q4 => some (some (.int q4.1), q4.2)))))) := by
  have e : rv_EV 66 [.ref p, .int n1, .int n2] w = rv_GO rc_X4_left 0 [some (.ref p), some (.int n1), some (.int n2), none, none] [] w := by
    show cond ((rv_obj w p 3).isSome && true) _ _ = _
    rw [hp]
    rfl
  rw [e, ← rv_blk_eq [30] 14]
  rfl
set_option maxRecDepth 100000 in
set_option maxHeartbeats 4000000 in
theorem bk_X4_left_30 (v2 : Int32) (v3 : Int32) (v4 : Int32) (w : rv_W) : rv_GO rc_X4_left 30 [none, none, some (.int v2), some (.int v3), some (.int v4)] [] w = (bif rv_cnd .ge v4 v2 then some (some (.int v3), w) else ((rv_ri (rv_EV 22 [.int v3] w)).bind fun q1 => rv_GO rc_X4_left 30 [none, none, some (.int v2), some (.int q1.1), some (.int (v4 + 1))] [] q1.2)) := by
  rw [← rv_blk_eq [30] 10]
  rfl
set_option maxRecDepth 100000 in
set_option maxHeartbeats 4000000 in
theorem ev_X4_needed (p : Nat) (n1 : Int32) (n2 : Int32) (w : rv_W) (hp : (rv_obj w p 3).isSome = true) : rv_EV 67 [.ref p, .int n1, .int n2] w = ((rv_ri (rv_EV 96 [.int n1, .int 500] w)).bind fun q1 => (bif rv_cnd .eq q1.1 0 then ((rv_ri (rv_EV 95 [.ref p, .int 0] q1.2)).bind fun q2 => some (some (.int q2.1), q2.2)) else ((rv_ri (rv_EV 96 [.int n2, .int 9] q1.2)).bind fun q3 => (bif rv_cnd .ne q3.1 0 then rv_GO rc_X4_needed 30 [some (.ref p), none, some (.int n2), some (.int n1), some (.int 0)] [] q3.2 else ((rv_ri (rv_EV 95 [.ref p, .int 0] q3.2)).bind fun q4 => some (some (.int q4.1), q4.2)))))) := by
  have e : rv_EV 67 [.ref p, .int n1, .int n2] w = rv_GO rc_X4_needed 0 [some (.ref p), some (.int n1), some (.int n2), none, none] [] w := by
    show cond ((rv_obj w p 3).isSome && true) _ _ = _
    rw [hp]
    rfl
  rw [e, ← rv_blk_eq [30] 14]
  rfl
set_option maxRecDepth 100000 in
set_option maxHeartbeats 4000000 in
theorem bk_X4_needed_30 (v0 : Nat) (v2 : Int32) (v3 : Int32) (v4 : Int32) (w : rv_W) : rv_GO rc_X4_needed 30 [some (.ref v0), none, some (.int v2), some (.int v3), some (.int v4)] [] w = (bif rv_cnd .ge v4 v2 then (bif rv_cnd .le v3 9999 then some (some (.int v3), w) else ((rv_ri (rv_EV 95 [.ref v0, .int 3] w)).bind fun q1 => some (some (.int q1.1), q1.2))) else (bif rv_eq 3 0 then none else rv_GO rc_X4_needed 30 [some (.ref v0), none, some (.int v2), some (.int (((4 * v3) + 2) / 3)), some (.int (v4 + 1))] [] w)) := by
  rw [← rv_blk_eq [30] 15]
  rfl
set_option maxRecDepth 100000 in
set_option maxHeartbeats 4000000 in
theorem ev_X4_swapFor (p : Nat) (n1 : Int32) (n2 : Int32) (w : rv_W) (hp : (rv_obj w p 3).isSome = true) : rv_EV 68 [.ref p, .int n1, .int n2] w = ((rv_ldFR w p 3 0).bind fun a1 => ((rv_ri (rv_EV 10 [.ref a1, .int n1] w)).bind fun q2 => (bif rv_cnd .eq q2.1 0 then ((rv_ri (rv_EV 95 [.ref p, .int 0] q2.2)).bind fun q3 => some (some (.int q3.1), q3.2)) else ((rv_ri (rv_EV 96 [.int n2, .int 40] q2.2)).bind fun q4 => (bif rv_cnd .ne q4.1 0 then rv_GO rc_X4_swapFor 34 [some (.ref p), some (.int n1), some (.int n2), some (.int (-1)), some (.int (-1)), some (.int 0), none] [] q4.2 else ((rv_ri (rv_EV 95 [.ref p, .int 0] q4.2)).bind fun q5 => some (some (.int q5.1), q5.2))))))) := by
  have e : rv_EV 68 [.ref p, .int n1, .int n2] w = rv_GO rc_X4_swapFor 0 [some (.ref p), some (.int n1), some (.int n2), none, none, none, none] [] w := by
    show cond ((rv_obj w p 3).isSome && true) _ _ = _
    rw [hp]
    rfl
  rw [e, ← rv_blk_eq [34] 17]
  rfl
set_option maxRecDepth 100000 in
set_option maxHeartbeats 4000000 in
theorem bk_X4_swapFor_34 (v0 : Nat) (v1 : Int32) (v2 : Int32) (v3 : Int32) (v4 : Int32) (v5 : Int32) (w : rv_W) : rv_GO rc_X4_swapFor 34 [some (.ref v0), some (.int v1), some (.int v2), some (.int v3), some (.int v4), some (.int v5), none] [] w = ((rv_ldFR w v0 3 0).bind fun a1 => ((rv_ldFI w a1 1 7).bind fun x2 => (bif rv_cnd .ge v5 x2 then (bif rv_cnd .ne v3 (-1) then some (some (.int v3), w) else ((rv_ri (rv_EV 95 [.ref v0, .int 3] w)).bind fun q3 => some (some (.int q3.1), q3.2))) else (bif rv_cnd .ne v5 v1 then ((rv_ldFR w v0 3 2).bind fun a4 => ((rv_ldFR w v0 3 0).bind fun a5 => ((rv_rv (rv_EV 9 [.ref a4, .ref a5] w)).bind fun q6 => ((rv_ldFR q6 v0 3 2).bind fun a7 => ((rv_rv (rv_EV 14 [.ref a7, .int v1, .int v5] q6)).bind fun q8 => ((rv_ldFR q8 v0 3 2).bind fun a9 => ((rv_rv (rv_EV 20 [.ref a9, .int v2] q8)).bind fun q10 => ((rv_ldFR q10 v0 3 2).bind fun a11 => ((rv_ldFR q10 a11 1 5).bind fun a12 => ((rv_ldI q10 a12 v1).bind fun x13 => ((rv_ri (rv_EV 209 [.int x13] q10)).bind fun q14 => (bif rv_cnd .le q14.1 v4 then rv_GO rc_X4_swapFor 34 [some (.ref v0), some (.int v1), some (.int v2), some (.int v3), some (.int v4), some (.int (v5 + 1)), none] [] q14.2 else rv_GO rc_X4_swapFor 34 [some (.ref v0), some (.int v1), some (.int v2), some (.int v5), some (.int q14.1), some (.int (v5 + 1)), none] [] q14.2)))))))))))) else rv_GO rc_X4_swapFor 34 [some (.ref v0), some (.int v1), some (.int v2), some (.int v3), some (.int v4), some (.int (v5 + 1)), none] [] w)))) := by
  rw [← rv_blk_eq [34] 40]
  rfl
set_option maxRecDepth 100000 in
set_option maxHeartbeats 4000000 in
theorem ev_X4_seat (p : Nat) (n1 : Int32) (n2 : Int32) (w : rv_W) (hp : (rv_obj w p 3).isSome = true) : rv_EV 69 [.ref p, .int n1, .int n2] w = ((rv_ldFR w p 3 0).bind fun a1 => ((rv_ri (rv_EV 10 [.ref a1, .int n1] w)).bind fun q2 => (bif rv_cnd .eq q2.1 0 then ((rv_ri (rv_EV 95 [.ref p, .int 0] q2.2)).bind fun q3 => some (some (.int q3.1), q3.2)) else ((rv_ri (rv_EV 98 [.int n2] q2.2)).bind fun q4 => (bif rv_cnd .ne q4.1 0 then rv_GO rc_X4_seat 33 [some (.ref p), some (.int n1), some (.int n2), some (.int (-1)), some (.int 61), some (.int 0), none] [] q4.2 else ((rv_ri (rv_EV 95 [.ref p, .int 0] q4.2)).bind fun q5 => some (some (.int q5.1), q5.2))))))) := by
  have e : rv_EV 69 [.ref p, .int n1, .int n2] w = rv_GO rc_X4_seat 0 [some (.ref p), some (.int n1), some (.int n2), none, none, none, none] [] w := by
    show cond ((rv_obj w p 3).isSome && true) _ _ = _
    rw [hp]
    rfl
  rw [e, ← rv_blk_eq [33] 16]
  rfl
set_option maxRecDepth 100000 in
set_option maxHeartbeats 4000000 in
theorem bk_X4_seat_33 (v0 : Nat) (v1 : Int32) (v2 : Int32) (v3 : Int32) (v4 : Int32) (v5 : Int32) (w : rv_W) : rv_GO rc_X4_seat 33 [some (.ref v0), some (.int v1), some (.int v2), some (.int v3), some (.int v4), some (.int v5), none] [] w = (bif rv_cnd .ge v5 10 then (bif rv_cnd .ge v3 0 then some (some (.int v3), w) else ((rv_ri (rv_EV 95 [.ref v0, .int 3] w)).bind fun q1 => some (some (.int q1.1), q1.2))) else ((rv_ldFR w v0 3 2).bind fun a2 => ((rv_ldFR w v0 3 0).bind fun a3 => ((rv_rv (rv_EV 9 [.ref a2, .ref a3] w)).bind fun q4 => ((rv_ldFR q4 v0 3 2).bind fun a5 => ((rv_ldFR q4 a5 1 3).bind fun a6 => ((rv_stI q4 a6 v1 v5).bind fun w7 => ((rv_ri (rv_EV 104 [.ref v0, .int v1, .int v2, .int (v4 - 1)] w7)).bind fun q8 => (bif rv_cnd .lt q8.1 0 then rv_GO rc_X4_seat 33 [some (.ref v0), some (.int v1), some (.int v2), some (.int v3), some (.int v4), some (.int (v5 + 1)), none] [] q8.2 else rv_GO rc_X4_seat 33 [some (.ref v0), some (.int v1), some (.int v2), some (.int v5), some (.int q8.1), some (.int (v5 + 1)), none] [] q8.2))))))))) := by
  rw [← rv_blk_eq [33] 32]
  rfl
set_option maxRecDepth 100000 in
set_option maxHeartbeats 4000000 in
theorem ev_X4_kindFor (p : Nat) (n1 : Int32) (n2 : Int32) (w : rv_W) (hp : (rv_obj w p 3).isSome = true) : rv_EV 70 [.ref p, .int n1, .int n2] w = ((rv_ldFR w p 3 0).bind fun a1 => ((rv_ri (rv_EV 10 [.ref a1, .int n1] w)).bind fun q2 => (bif rv_cnd .eq q2.1 0 then ((rv_ri (rv_EV 95 [.ref p, .int 0] q2.2)).bind fun q3 => some (some (.int q3.1), q3.2)) else ((rv_ri (rv_EV 96 [.int n2, .int 40] q2.2)).bind fun q4 => (bif rv_cnd .ne q4.1 0 then rv_GO rc_X4_kindFor 34 [some (.ref p), some (.int n1), some (.int n2), some (.int 0), some (.int (-1)), some (.int 0), none] [] q4.2 else ((rv_ri (rv_EV 95 [.ref p, .int 0] q4.2)).bind fun q5 => some (some (.int q5.1), q5.2))))))) := by
  have e : rv_EV 70 [.ref p, .int n1, .int n2] w = rv_GO rc_X4_kindFor 0 [some (.ref p), some (.int n1), some (.int n2), none, none, none, none] [] w := by
    show cond ((rv_obj w p 3).isSome && true) _ _ = _
    rw [hp]
    rfl
  rw [e, ← rv_blk_eq [34] 17]
  rfl
set_option maxRecDepth 100000 in
set_option maxHeartbeats 4000000 in
theorem bk_X4_kindFor_34 (v0 : Nat) (v1 : Int32) (v2 : Int32) (v3 : Int32) (v4 : Int32) (v5 : Int32) (w : rv_W) : rv_GO rc_X4_kindFor 34 [some (.ref v0), some (.int v1), some (.int v2), some (.int v3), some (.int v4), some (.int v5), none] [] w = (bif rv_cnd .ge v5 7 then some (some (.int v3), w) else ((rv_ldFR w v0 3 2).bind fun a1 => ((rv_ldFR w v0 3 0).bind fun a2 => ((rv_rv (rv_EV 9 [.ref a1, .ref a2] w)).bind fun q3 => ((rv_ldFR q3 v0 3 2).bind fun a4 => ((rv_ldFR q3 a4 1 2).bind fun a5 => ((rv_stI q3 a5 v1 v5).bind fun w6 => ((rv_ldFR w6 v0 3 2).bind fun a7 => ((rv_rv (rv_EV 20 [.ref a7, .int v2] w6)).bind fun q8 => ((rv_ldFR q8 v0 3 2).bind fun a9 => ((rv_ldFR q8 a9 1 5).bind fun a10 => ((rv_ldI q8 a10 v1).bind fun x11 => ((rv_ri (rv_EV 209 [.int x11] q8)).bind fun q12 => (bif rv_cnd .le q12.1 v4 then rv_GO rc_X4_kindFor 34 [some (.ref v0), some (.int v1), some (.int v2), some (.int v3), some (.int v4), some (.int (v5 + 1)), none] [] q12.2 else rv_GO rc_X4_kindFor 34 [some (.ref v0), some (.int v1), some (.int v2), some (.int v5), some (.int q12.1), some (.int (v5 + 1)), none] [] q12.2)))))))))))))) := by
  rw [← rv_blk_eq [34] 36]
  rfl
set_option maxRecDepth 100000 in
set_option maxHeartbeats 4000000 in
theorem ev_X4_freshFor (p : Nat) (n1 : Int32) (n2 : Int32) (w : rv_W) (hp : (rv_obj w p 3).isSome = true) : rv_EV 71 [.ref p, .int n1, .int n2] w = ((rv_ri (rv_EV 96 [.int n1, .int 99] w)).bind fun q1 => (bif rv_cnd .eq q1.1 0 then ((rv_ri (rv_EV 95 [.ref p, .int 0] q1.2)).bind fun q2 => some (some (.int q2.1), q2.2)) else ((rv_ri (rv_EV 96 [.int n2, .int 40] q1.2)).bind fun q3 => (bif rv_cnd .ne q3.1 0 then rv_GO rc_X4_freshFor 26 [some (.ref p), some (.int n1), some (.int n2), some (.int 0)] [] q3.2 else ((rv_ri (rv_EV 95 [.ref p, .int 0] q3.2)).bind fun q4 => some (some (.int q4.1), q4.2)))))) := by
  have e : rv_EV 71 [.ref p, .int n1, .int n2] w = rv_GO rc_X4_freshFor 0 [some (.ref p), some (.int n1), some (.int n2), none] [] w := by
    show cond ((rv_obj w p 3).isSome && true) _ _ = _
    rw [hp]
    rfl
  rw [e, ← rv_blk_eq [26] 13]
  rfl
set_option maxRecDepth 100000 in
set_option maxHeartbeats 4000000 in
theorem bk_X4_freshFor_26 (v0 : Nat) (v1 : Int32) (v2 : Int32) (v3 : Int32) (w : rv_W) : rv_GO rc_X4_freshFor 26 [some (.ref v0), some (.int v1), some (.int v2), some (.int v3)] [] w = (bif rv_cnd .gt v3 99 then ((rv_ri (rv_EV 95 [.ref v0, .int 3] w)).bind fun q1 => some (some (.int q1.1), q1.2)) else ((rv_ldFR w v0 3 2).bind fun a2 => ((rv_ldFR w v0 3 0).bind fun a3 => ((rv_rv (rv_EV 9 [.ref a2, .ref a3] w)).bind fun q4 => ((rv_ldFR q4 v0 3 2).bind fun a5 => ((rv_stF q4 a5 1 8 (.int v3)).bind fun w6 => ((rv_ldFR w6 v0 3 2).bind fun a7 => ((rv_rv (rv_EV 20 [.ref a7, .int v2] w6)).bind fun q8 => ((rv_ldFR q8 v0 3 2).bind fun a9 => ((rv_ri (rv_EV 33 [.ref a9, .int v1] q8)).bind fun q10 => (bif rv_cnd .ne q10.1 0 then rv_GO rc_X4_freshFor 26 [some (.ref v0), some (.int v1), some (.int v2), some (.int (v3 + 1))] [] q10.2 else some (some (.int v3), q10.2)))))))))))) := by
  rw [← rv_blk_eq [26] 25]
  rfl
set_option maxRecDepth 100000 in
set_option maxHeartbeats 4000000 in
theorem ev_X4_hides (p : Nat) (n1 : Int32) (n2 : Int32) (n3 : Int32) (n4 : Int32) (w : rv_W) (hp : (rv_obj w p 3).isSome = true) : rv_EV 72 [.ref p, .int n1, .int n2, .int n3, .int n4] w = ((rv_ri (rv_EV 97 [.int n1] w)).bind fun q1 => (bif rv_cnd .eq q1.1 0 then ((rv_ri (rv_EV 95 [.ref p, .int 0] q1.2)).bind fun q2 => some (some (.int q2.1), q2.2)) else ((rv_ri (rv_EV 98 [.int n2] q1.2)).bind fun q3 => (bif rv_cnd .eq q3.1 0 then ((rv_ri (rv_EV 95 [.ref p, .int 0] q3.2)).bind fun q4 => some (some (.int q4.1), q4.2)) else ((rv_ri (rv_EV 98 [.int n3] q3.2)).bind fun q5 => (bif rv_cnd .eq q5.1 0 then ((rv_ri (rv_EV 95 [.ref p, .int 0] q5.2)).bind fun q6 => some (some (.int q6.1), q6.2)) else ((rv_ri (rv_EV 96 [.int n4, .int 20] q5.2)).bind fun q7 => (bif rv_cnd .eq q7.1 0 then ((rv_ri (rv_EV 95 [.ref p, .int 0] q7.2)).bind fun q8 => some (some (.int q8.1), q8.2)) else (bif rv_cnd .ne n2 n3 then ((rv_ldFR q7.2 p 3 0).bind fun a9 => ((rv_ri (rv_EV 15 [.ref a9, .int n1, .int n2] q7.2)).bind fun q10 => rv_GO rc_X4_hides 56 [some (.ref p), some (.int n1), some (.int n2), some (.int n3), some (.int n4), some (.int q10.1), some (.int 0)] [] q10.2)) else ((rv_ri (rv_EV 95 [.ref p, .int 0] q7.2)).bind fun q11 => some (some (.int q11.1), q11.2))))))))))) := by
  have e : rv_EV 72 [.ref p, .int n1, .int n2, .int n3, .int n4] w = rv_GO rc_X4_hides 0 [some (.ref p), some (.int n1), some (.int n2), some (.int n3), some (.int n4), none, none] [] w := by
    show cond ((rv_obj w p 3).isSome && true) _ _ = _
    rw [hp]
    rfl
  rw [e, ← rv_blk_eq [56] 26]
  rfl
set_option maxRecDepth 100000 in
set_option maxHeartbeats 4000000 in
theorem bk_X4_hides_56 (v0 : Nat) (v1 : Int32) (v2 : Int32) (v3 : Int32) (v4 : Int32) (v5 : Int32) (v6 : Int32) (w : rv_W) : rv_GO rc_X4_hides 56 [some (.ref v0), some (.int v1), some (.int v2), some (.int v3), some (.int v4), some (.int v5), some (.int v6)] [] w = (bif rv_cnd .gt (v5 + v6) 9999 then ((rv_ri (rv_EV 95 [.ref v0, .int 3] w)).bind fun q1 => some (some (.int q1.1), q1.2)) else ((rv_ldFR w v0 3 2).bind fun a2 => ((rv_ldFR w v0 3 0).bind fun a3 => ((rv_rv (rv_EV 9 [.ref a2, .ref a3] w)).bind fun q4 => ((rv_ldFR q4 v0 3 2).bind fun a5 => ((rv_rv (rv_EV 16 [.ref a5, .int v1, .int v2, .int (v5 + v6)] q4)).bind fun q6 => ((rv_ri (rv_EV 105 [.ref v0, .int v3, .int v4] q6)).bind fun q7 => (bif rv_cnd .ne q7.1 0 then rv_GO rc_X4_hides 56 [some (.ref v0), some (.int v1), some (.int v2), some (.int v3), some (.int v4), some (.int v5), some (.int (v6 + 10))] [] q7.2 else some (some (.int v6), q7.2))))))))) := by
  rw [← rv_blk_eq [56] 27]
  rfl
set_option maxRecDepth 100000 in
set_option maxHeartbeats 4000000 in
theorem ev_X4_leave (p : Nat) (n1 : Int32) (n2 : Int32) (w : rv_W) (hp : (rv_obj w p 3).isSome = true) : rv_EV 73 [.ref p, .int n1, .int n2] w = ((rv_ri (rv_EV 98 [.int n1] w)).bind fun q1 => (bif rv_cnd .eq q1.1 0 then ((rv_ri (rv_EV 95 [.ref p, .int 0] q1.2)).bind fun q2 => some (some (.int q2.1), q2.2)) else ((rv_ri (rv_EV 96 [.int n2, .int 20] q1.2)).bind fun q3 => (bif rv_cnd .ne q3.1 0 then ((rv_ldFR q3.2 p 3 0).bind fun a4 => ((rv_ldFI q3.2 a4 1 7).bind fun x5 => rv_GO rc_X4_leave 40 [some (.ref p), some (.int n1), some (.int n2), some (.int ((1 <<< (x5 &&& 31)) - 1)), some (.int ((1 <<< (x5 &&& 31)) - 1)), some (.int 0)] [] q3.2)) else ((rv_ri (rv_EV 95 [.ref p, .int 0] q3.2)).bind fun q6 => some (some (.int q6.1), q6.2)))))) := by
  have e : rv_EV 73 [.ref p, .int n1, .int n2] w = rv_GO rc_X4_leave 0 [some (.ref p), some (.int n1), some (.int n2), none, none, none] [] w := by
    show cond ((rv_obj w p 3).isSome && true) _ _ = _
    rw [hp]
    rfl
  rw [e, ← rv_blk_eq [40] 21]
  rfl
set_option maxRecDepth 100000 in
set_option maxHeartbeats 4000000 in
theorem bk_X4_leave_40 (v0 : Nat) (v1 : Int32) (v2 : Int32) (v3 : Int32) (v4 : Int32) (v5 : Int32) (w : rv_W) : rv_GO rc_X4_leave 40 [some (.ref v0), some (.int v1), some (.int v2), some (.int v3), some (.int v4), some (.int v5)] [] w = (bif rv_cnd .ge v5 v3 then some (some (.int v4), w) else ((rv_ri (rv_EV 209 [.int v5] w)).bind fun q1 => ((rv_ri (rv_EV 209 [.int v4] q1.2)).bind fun q2 => (bif rv_cnd .lt q1.1 q2.1 then ((rv_ldFR q2.2 v0 3 2).bind fun a3 => ((rv_ldFR q2.2 v0 3 0).bind fun a4 => ((rv_rv (rv_EV 9 [.ref a3, .ref a4] q2.2)).bind fun q5 => ((rv_ldFR q5 v0 3 2).bind fun a6 => ((rv_stF q5 a6 1 11 (.int v5)).bind fun w7 => ((rv_ri (rv_EV 105 [.ref v0, .int v1, .int v2] w7)).bind fun q8 => (bif rv_cnd .ne q8.1 0 then rv_GO rc_X4_leave 40 [some (.ref v0), some (.int v1), some (.int v2), some (.int v3), some (.int v4), some (.int (v5 + 1))] [] q8.2 else rv_GO rc_X4_leave 40 [some (.ref v0), some (.int v1), some (.int v2), some (.int v3), some (.int v5), some (.int (v5 + 1))] [] q8.2))))))) else rv_GO rc_X4_leave 40 [some (.ref v0), some (.int v1), some (.int v2), some (.int v3), some (.int v4), some (.int (v5 + 1))] [] q2.2)))) := by
  rw [← rv_blk_eq [40] 28]
  rfl
set_option maxRecDepth 100000 in
set_option maxHeartbeats 4000000 in
theorem ev_X4_plugFor (p : Nat) (n1 : Int32) (n2 : Int32) (w : rv_W) (hp : (rv_obj w p 3).isSome = true) : rv_EV 74 [.ref p, .int n1, .int n2] w = ((rv_ri (rv_EV 98 [.int n1] w)).bind fun q1 => (bif rv_cnd .eq q1.1 0 then ((rv_ri (rv_EV 95 [.ref p, .int 0] q1.2)).bind fun q2 => some (some (.int q2.1), q2.2)) else ((rv_ri (rv_EV 96 [.int n2, .int 40] q1.2)).bind fun q3 => (bif rv_cnd .ne q3.1 0 then rv_GO rc_X4_plugFor 31 [some (.ref p), some (.int n1), some (.int n2), some (.int 0), some (.int 9), some (.int 0), none] [] q3.2 else ((rv_ri (rv_EV 95 [.ref p, .int 0] q3.2)).bind fun q4 => some (some (.int q4.1), q4.2)))))) := by
  have e : rv_EV 74 [.ref p, .int n1, .int n2] w = rv_GO rc_X4_plugFor 0 [some (.ref p), some (.int n1), some (.int n2), none, none, none, none] [] w := by
    show cond ((rv_obj w p 3).isSome && true) _ _ = _
    rw [hp]
    rfl
  rw [e, ← rv_blk_eq [31] 15]
  rfl
set_option maxRecDepth 100000 in
set_option maxHeartbeats 4000000 in
theorem bk_X4_plugFor_31 (v0 : Nat) (v1 : Int32) (v2 : Int32) (v3 : Int32) (v4 : Int32) (v5 : Int32) (w : rv_W) : rv_GO rc_X4_plugFor 31 [some (.ref v0), some (.int v1), some (.int v2), some (.int v3), some (.int v4), some (.int v5), none] [] w = (bif rv_cnd .ge v5 10 then some (some (.int v3), w) else ((rv_ldFR w v0 3 2).bind fun a1 => ((rv_ldFR w v0 3 0).bind fun a2 => ((rv_rv (rv_EV 9 [.ref a1, .ref a2] w)).bind fun q3 => ((rv_ldFR q3 v0 3 2).bind fun a4 => ((rv_rv (rv_EV 18 [.ref a4, .int v5] q3)).bind fun q5 => ((rv_ldFR q5 v0 3 2).bind fun a6 => ((rv_rv (rv_EV 20 [.ref a6, .int v2] q5)).bind fun q7 => ((rv_ldFR q7 v0 3 2).bind fun a8 => ((rv_ri (rv_EV 29 [.ref a8, .int v1] q7)).bind fun q9 => ((rv_ri (rv_EV 209 [.int q9.1] q9.2)).bind fun q10 => (bif rv_cnd .ge q10.1 v4 then rv_GO rc_X4_plugFor 31 [some (.ref v0), some (.int v1), some (.int v2), some (.int v3), some (.int v4), some (.int (v5 + 1)), none] [] q10.2 else rv_GO rc_X4_plugFor 31 [some (.ref v0), some (.int v1), some (.int v2), some (.int v5), some (.int q10.1), some (.int (v5 + 1)), none] [] q10.2)))))))))))) := by
  rw [← rv_blk_eq [31] 33]
  rfl
set_option maxRecDepth 100000 in
set_option maxHeartbeats 4000000 in
theorem ev_X4_fits (p : Nat) (n1 : Int32) (n2 : Int32) (w : rv_W) (hp : (rv_obj w p 3).isSome = true) : rv_EV 75 [.ref p, .int n1, .int n2] w = ((rv_ri (rv_EV 103 [.ref p, .int n1] w)).bind fun q1 => (bif rv_cnd .eq q1.1 (-1) then ((rv_ldFR q1.2 p 3 0).bind fun a2 => ((rv_ri (rv_EV 10 [.ref a2, .int n2] q1.2)).bind fun q3 => (bif rv_cnd .ne q3.1 0 then rv_GO rc_X4_fits 40 [some (.ref p), some (.int n1), some (.int n2), none, some (.int 0), some (.int 0)] [] q3.2 else ((rv_ri (rv_EV 95 [.ref p, .int 0] q3.2)).bind fun q4 => some (some (.int q4.1), q4.2))))) else ((rv_ri (rv_EV 95 [.ref p, .int q1.1] q1.2)).bind fun q5 => some (some (.int q5.1), q5.2)))) := by
  have e : rv_EV 75 [.ref p, .int n1, .int n2] w = rv_GO rc_X4_fits 0 [some (.ref p), some (.int n1), some (.int n2), none, none, none] [] w := by
    show cond ((rv_obj w p 3).isSome && true) _ _ = _
    rw [hp]
    rfl
  rw [e, ← rv_blk_eq [40] 18]
  rfl
set_option maxRecDepth 100000 in
set_option maxHeartbeats 4000000 in
theorem bk_X4_fits_40 (v0 : Nat) (v1 : Int32) (v2 : Int32) (v4 : Int32) (v5 : Int32) (w : rv_W) : rv_GO rc_X4_fits 40 [some (.ref v0), some (.int v1), some (.int v2), none, some (.int v4), some (.int v5)] [] w = (bif rv_cnd .ge v5 4 then some (some (.int v4), w) else ((rv_ldFR w v0 3 2).bind fun a1 => ((rv_ldFR w v0 3 0).bind fun a2 => ((rv_rv (rv_EV 9 [.ref a1, .ref a2] w)).bind fun q3 => ((rv_ldFR q3 v0 3 2).bind fun a4 => ((rv_ldFR q3 a4 1 4).bind fun a5 => ((rv_stI q3 a5 v2 v5).bind fun w6 => ((rv_ldFR w6 v0 3 3).bind fun a7 => ((rv_ldQ w6 a7 v1).bind fun a8 => ((rv_ri (rv_EV 106 [.ref v0, .ref a8] w6)).bind fun q9 => (bif rv_cnd .eq q9.1 0 then rv_GO rc_X4_fits 40 [some (.ref v0), some (.int v1), some (.int v2), none, some (.int v4), some (.int (v5 + 1))] [] q9.2 else rv_GO rc_X4_fits 40 [some (.ref v0), some (.int v1), some (.int v2), none, some (.int (v4 ||| (1 <<< (v5 &&& 31)))), some (.int (v5 + 1))] [] q9.2))))))))))) := by
  rw [← rv_blk_eq [40] 31]
  rfl
set_option maxRecDepth 100000 in
set_option maxHeartbeats 4000000 in
theorem ev_X4_kinds (p : Nat) (n1 : Int32) (n2 : Int32) (w : rv_W) (hp : (rv_obj w p 3).isSome = true) : rv_EV 76 [.ref p, .int n1, .int n2] w = ((rv_ri (rv_EV 103 [.ref p, .int n1] w)).bind fun q1 => (bif rv_cnd .eq q1.1 (-1) then ((rv_ldFR q1.2 p 3 0).bind fun a2 => ((rv_ri (rv_EV 10 [.ref a2, .int n2] q1.2)).bind fun q3 => (bif rv_cnd .ne q3.1 0 then rv_GO rc_X4_kinds 40 [some (.ref p), some (.int n1), some (.int n2), none, some (.int 0), some (.int 0)] [] q3.2 else ((rv_ri (rv_EV 95 [.ref p, .int 0] q3.2)).bind fun q4 => some (some (.int q4.1), q4.2))))) else ((rv_ri (rv_EV 95 [.ref p, .int q1.1] q1.2)).bind fun q5 => some (some (.int q5.1), q5.2)))) := by
  have e : rv_EV 76 [.ref p, .int n1, .int n2] w = rv_GO rc_X4_kinds 0 [some (.ref p), some (.int n1), some (.int n2), none, none, none] [] w := by
    show cond ((rv_obj w p 3).isSome && true) _ _ = _
    rw [hp]
    rfl
  rw [e, ← rv_blk_eq [40] 18]
  rfl
set_option maxRecDepth 100000 in
set_option maxHeartbeats 4000000 in
theorem bk_X4_kinds_40 (v0 : Nat) (v1 : Int32) (v2 : Int32) (v4 : Int32) (v5 : Int32) (w : rv_W) : rv_GO rc_X4_kinds 40 [some (.ref v0), some (.int v1), some (.int v2), none, some (.int v4), some (.int v5)] [] w = (bif rv_cnd .ge v5 7 then some (some (.int v4), w) else ((rv_ldFR w v0 3 2).bind fun a1 => ((rv_ldFR w v0 3 0).bind fun a2 => ((rv_rv (rv_EV 9 [.ref a1, .ref a2] w)).bind fun q3 => ((rv_ldFR q3 v0 3 2).bind fun a4 => ((rv_ldFR q3 a4 1 2).bind fun a5 => ((rv_stI q3 a5 v2 v5).bind fun w6 => ((rv_ldFR w6 v0 3 3).bind fun a7 => ((rv_ldQ w6 a7 v1).bind fun a8 => ((rv_ri (rv_EV 106 [.ref v0, .ref a8] w6)).bind fun q9 => (bif rv_cnd .eq q9.1 0 then rv_GO rc_X4_kinds 40 [some (.ref v0), some (.int v1), some (.int v2), none, some (.int v4), some (.int (v5 + 1))] [] q9.2 else rv_GO rc_X4_kinds 40 [some (.ref v0), some (.int v1), some (.int v2), none, some (.int (v4 ||| (1 <<< (v5 &&& 31)))), some (.int (v5 + 1))] [] q9.2))))))))))) := by
  rw [← rv_blk_eq [40] 31]
  rfl
set_option maxRecDepth 100000 in
set_option maxHeartbeats 4000000 in
theorem ev_X4_plugs (p : Nat) (n1 : Int32) (w : rv_W) (hp : (rv_obj w p 3).isSome = true) : rv_EV 77 [.ref p, .int n1] w = (bif rv_cnd .lt n1 1 then ((rv_ri (rv_EV 95 [.ref p, .int 0] w)).bind fun q1 => some (some (.int q1.1), q1.2)) else (bif rv_cnd .le n1 20 then ((rv_ldFR w p 3 0).bind fun a2 => ((rv_ldFI w a2 1 9).bind fun x3 => (bif rv_cnd .le x3 (99999 - n1) then rv_GO rc_X4_plugs 39 [some (.ref p), some (.int n1), some (.int 0)] [] w else ((rv_ri (rv_EV 95 [.ref p, .int 4] w)).bind fun q4 => some (some (.int q4.1), q4.2))))) else ((rv_ri (rv_EV 95 [.ref p, .int 0] w)).bind fun q5 => some (some (.int q5.1), q5.2)))) := by
  have e : rv_EV 77 [.ref p, .int n1] w = rv_GO rc_X4_plugs 0 [some (.ref p), some (.int n1), none] [] w := by
    show cond ((rv_obj w p 3).isSome && true) _ _ = _
    rw [hp]
    rfl
  rw [e, ← rv_blk_eq [39] 18]
  rfl
set_option maxRecDepth 100000 in
set_option maxHeartbeats 4000000 in
theorem bk_X4_plugs_39 (v0 : Nat) (v1 : Int32) (v2 : Int32) (w : rv_W) : rv_GO rc_X4_plugs 39 [some (.ref v0), some (.int v1), some (.int v2)] [] w = (bif rv_cnd .ge v2 v1 then ((rv_ldFR w v0 3 0).bind fun a1 => ((rv_ri (rv_EV 35 [.ref a1] w)).bind fun q2 => some (some (.int q2.1), q2.2))) else ((rv_ldFR w v0 3 0).bind fun a3 => ((rv_ldFR w v0 3 0).bind fun a4 => ((rv_ri (rv_EV 19 [.ref a4] w)).bind fun q5 => (bif rv_eq 10 0 then none else ((rv_rv (rv_EV 18 [.ref a3, .int (q5.1 - q5.1 / 10 * 10)] q5.2)).bind fun q6 => ((rv_ldFR q6 v0 3 0).bind fun a7 => ((rv_rv (rv_EV 21 [.ref a7] q6)).bind fun q8 => rv_GO rc_X4_plugs 39 [some (.ref v0), some (.int v1), some (.int (v2 + 1))] [] q8)))))))) := by
  rw [← rv_blk_eq [39] 18]
  rfl
set_option maxRecDepth 100000 in
set_option maxHeartbeats 4000000 in
theorem ev_X4_odds (p : Nat) (n1 : Int32) (n2 : Int32) (w : rv_W) (hp : (rv_obj w p 3).isSome = true) : rv_EV 78 [.ref p, .int n1, .int n2] w = ((rv_ri (rv_EV 96 [.int n1, .int 18] w)).bind fun q1 => (bif rv_cnd .eq q1.1 0 then ((rv_ri (rv_EV 95 [.ref p, .int 0] q1.2)).bind fun q2 => some (some (.long (Int32.toInt64 q2.1)), q2.2)) else ((rv_ri (rv_EV 96 [.int n2, .int 1] q1.2)).bind fun q3 => (bif rv_cnd .ne q3.1 0 then ((rv_ldFR q3.2 p 3 0).bind fun a4 => ((rv_ri (rv_EV 34 [.ref a4] q3.2)).bind fun q5 => ((rv_ri (rv_EV 102 [.int q5.1, .int 10] q5.2)).bind fun q6 => (bif rv_cnd .ne n2 0 then rv_GO rc_X4_odds 50 [none, some (.int n1), none, none, some (.int q6.1), none, none, none, none, none] [.int 10] q6.2 else rv_GO rc_X4_odds 50 [none, some (.int n1), none, none, some (.int q6.1), none, none, none, none, none] [.int q5.1] q6.2)))) else ((rv_ri (rv_EV 95 [.ref p, .int 0] q3.2)).bind fun q7 => some (some (.long (Int32.toInt64 q7.1)), q7.2)))))) := by
  have e : rv_EV 78 [.ref p, .int n1, .int n2] w = rv_GO rc_X4_odds 0 [some (.ref p), some (.int n1), some (.int n2), none, none, none, none, none, none, none] [] w := by
    show cond ((rv_obj w p 3).isSome && true) _ _ = _
    rw [hp]
    rfl
  rw [e, ← rv_blk_eq [50, 62] 22]
  rfl
set_option maxRecDepth 100000 in
set_option maxHeartbeats 4000000 in
theorem bk_X4_odds_50 (v1 : Int32) (v4 : Int32) (s0 : Int32) (w : rv_W) : rv_GO rc_X4_odds 50 [none, some (.int v1), none, none, some (.int v4), none, none, none, none, none] [.int s0] w = (bif rv_eq v4 0 then none else rv_GO rc_X4_odds 62 [none, some (.int v1), none, none, none, some (.long (Int32.toInt64 (s0 / v4))), none, some (.long (Int32.toInt64 1)), none, some (.int 0)] [] w) := by
  rw [← rv_blk_eq [50, 62] 10]
  rfl
set_option maxRecDepth 100000 in
set_option maxHeartbeats 4000000 in
theorem bk_X4_odds_62 (v1 : Int32) (v5 : Int64) (v7 : Int64) (v9 : Int32) (w : rv_W) : rv_GO rc_X4_odds 62 [none, some (.int v1), none, none, none, some (.long v5), none, some (.long v7), none, some (.int v9)] [] w = (bif rv_cnd .ge v9 v1 then some (some (.long v7), w) else rv_GO rc_X4_odds 62 [none, some (.int v1), none, none, none, some (.long v5), none, some (.long (v7 * v5)), none, some (.int (v9 + 1))] [] w) := by
  rw [← rv_blk_eq [50, 62] 11]
  rfl
set_option maxRecDepth 100000 in
set_option maxHeartbeats 4000000 in
theorem ev_X4_seed (p : Nat) (n1 : Int32) (w : rv_W) (hp : (rv_obj w p 3).isSome = true) : rv_EV 79 [.ref p, .int n1] w = ((rv_ldFR w p 3 0).bind fun a1 => ((rv_ldFI w a1 1 10).bind fun x2 => ((rv_ldFR w p 3 0).bind fun a3 => ((rv_stF w a3 1 10 (.int n1)).bind fun w4 => some (some (.int x2), w4))))) := by
  have e : rv_EV 79 [.ref p, .int n1] w = rv_GO rc_X4_seed 0 [some (.ref p), some (.int n1), none] [] w := by
    show cond ((rv_obj w p 3).isSome && true) _ _ = _
    rw [hp]
    rfl
  rw [e, ← rv_blk_eq [] 11]
  rfl
set_option maxRecDepth 100000 in
set_option maxHeartbeats 4000000 in
theorem ev_X4_feed (p : Nat) (n1 : Int32) (n2 : Int32) (w : rv_W) (hp : (rv_obj w p 3).isSome = true) : rv_EV 80 [.ref p, .int n1, .int n2] w = (bif rv_cnd .lt n2 1 then ((rv_ri (rv_EV 95 [.ref p, .int 0] w)).bind fun q1 => some (some (.int q1.1), q1.2)) else (bif rv_cnd .le n2 4 then ((rv_ldFI w p 3 7).bind fun x2 => (bif rv_cnd .le x2 (120 - n2) then rv_GO rc_X4_feed 37 [some (.ref p), some (.int n1), none, some (.int (n2 - 1))] [] w else ((rv_ri (rv_EV 95 [.ref p, .int 1] w)).bind fun q3 => some (some (.int q3.1), q3.2)))) else ((rv_ri (rv_EV 95 [.ref p, .int 0] w)).bind fun q4 => some (some (.int q4.1), q4.2)))) := by
  have e : rv_EV 80 [.ref p, .int n1, .int n2] w = rv_GO rc_X4_feed 0 [some (.ref p), some (.int n1), some (.int n2), none] [] w := by
    show cond ((rv_obj w p 3).isSome && true) _ _ = _
    rw [hp]
    rfl
  rw [e, ← rv_blk_eq [37] 18]
  rfl
set_option maxRecDepth 100000 in
set_option maxHeartbeats 4000000 in
theorem bk_X4_feed_37 (v0 : Nat) (v1 : Int32) (v3 : Int32) (w : rv_W) : rv_GO rc_X4_feed 37 [some (.ref v0), some (.int v1), none, some (.int v3)] [] w = (bif rv_cnd .lt v3 0 then ((rv_ldFI w v0 3 7).bind fun x1 => some (some (.int x1), w)) else ((rv_ldFR w v0 3 4).bind fun a2 => ((rv_ldFI w v0 3 7).bind fun x3 => ((rv_stB w a2 x3 (Int32.toUInt32 v1 >>> (Int32.toUInt32 (8 * v3) &&& Int32.toUInt32 31)).toInt32.toInt8.toInt32).bind fun w4 => ((rv_ldFI w4 v0 3 7).bind fun x5 => ((rv_stF w4 v0 3 7 (.int (x5 + 1))).bind fun w6 => rv_GO rc_X4_feed 37 [some (.ref v0), some (.int v1), none, some (.int (v3 + (-1)))] [] w6)))))) := by
  rw [← rv_blk_eq [37] 23]
  rfl
set_option maxRecDepth 100000 in
set_option maxHeartbeats 4000000 in
theorem ev_X4_wipe (p : Nat) (w : rv_W) (hp : (rv_obj w p 3).isSome = true) : rv_EV 81 [.ref p] w = ((rv_ldFI w p 3 7).bind fun x1 => ((rv_stF w p 3 7 (.int 0)).bind fun w2 => some (some (.int x1), w2))) := by
  have e : rv_EV 81 [.ref p] w = rv_GO rc_X4_wipe 0 [some (.ref p), none] [] w := by
    show cond ((rv_obj w p 3).isSome && true) _ _ = _
    rw [hp]
    rfl
  rw [e, ← rv_blk_eq [] 9]
  rfl
set_option maxRecDepth 100000 in
set_option maxHeartbeats 4000000 in
theorem ev_X4_text (p : Nat) (w : rv_W) (hp : (rv_obj w p 3).isSome = true) : rv_EV 82 [.ref p] w = ((rv_ldFR w p 3 2).bind fun a1 => ((rv_ldFR w p 3 0).bind fun a2 => ((rv_rv (rv_EV 9 [.ref a1, .ref a2] w)).bind fun q3 => ((rv_ldFR q3 p 3 5).bind fun a4 => ((rv_ldFR q3 p 3 4).bind fun a5 => ((rv_ldFI q3 p 3 7).bind fun x6 => ((rv_ldFR q3 p 3 2).bind fun a7 => ((rv_ri (rv_EV 38 [.ref a4, .ref a5, .int x6, .ref a7] q3)).bind fun q8 => ((rv_stF q8.2 p 3 7 (.int 0)).bind fun w9 => (bif rv_cnd .lt q8.1 0 then some (some (.int q8.1), w9) else ((rv_ldFR w9 p 3 0).bind fun a10 => ((rv_ldFR w9 p 3 2).bind fun a11 => ((rv_rv (rv_EV 9 [.ref a10, .ref a11] w9)).bind fun q12 => some (some (.int q8.1), q12)))))))))))))) := by
  have e : rv_EV 82 [.ref p] w = rv_GO rc_X4_text 0 [some (.ref p), none] [] w := by
    show cond ((rv_obj w p 3).isSome && true) _ _ = _
    rw [hp]
    rfl
  rw [e, ← rv_blk_eq [] 28]
  rfl
set_option maxRecDepth 100000 in
set_option maxHeartbeats 4000000 in
theorem ev_X4_hold (p : Nat) (n1 : Int32) (n2 : Int32) (w : rv_W) (hp : (rv_obj w p 3).isSome = true) : rv_EV 83 [.ref p, .int n1, .int n2] w = ((rv_ri (rv_EV 99 [.int n1] w)).bind fun q1 => (bif rv_cnd .eq q1.1 0 then ((rv_ri (rv_EV 95 [.ref p, .int 0] q1.2)).bind fun q2 => some (some (.int q2.1), q2.2)) else (bif rv_cnd .eq n2 (-1) then rv_GO rc_X4_hold 29 [some (.ref p), some (.int n1), some (.int n2)] [] q1.2 else ((rv_ldFR q1.2 p 3 0).bind fun a3 => ((rv_ri (rv_EV 10 [.ref a3, .int n2] q1.2)).bind fun q4 => (bif rv_cnd .ne q4.1 0 then rv_GO rc_X4_hold 29 [some (.ref p), some (.int n1), some (.int n2)] [] q4.2 else ((rv_ri (rv_EV 95 [.ref p, .int 0] q4.2)).bind fun q5 => some (some (.int q5.1), q5.2)))))))) := by
  have e : rv_EV 83 [.ref p, .int n1, .int n2] w = rv_GO rc_X4_hold 0 [some (.ref p), some (.int n1), some (.int n2)] [] w := by
    show cond ((rv_obj w p 3).isSome && true) _ _ = _
    rw [hp]
    rfl
  rw [e, ← rv_blk_eq [29] 16]
  rfl
set_option maxRecDepth 100000 in
set_option maxHeartbeats 4000000 in
theorem bk_X4_hold_29 (v0 : Nat) (v1 : Int32) (v2 : Int32) (w : rv_W) : rv_GO rc_X4_hold 29 [some (.ref v0), some (.int v1), some (.int v2)] [] w = ((rv_ldFR w v0 3 0).bind fun a1 => ((rv_ldFR w a1 1 6).bind fun a2 => ((rv_stI w a2 v1 v2).bind fun w3 => some (some (.int 1), w3)))) := by
  rw [← rv_blk_eq [29] 9]
  rfl
set_option maxRecDepth 100000 in
set_option maxHeartbeats 4000000 in
theorem ev_X4_as (p : Nat) (n1 : Int32) (n2 : Int32) (w : rv_W) (hp : (rv_obj w p 3).isSome = true) : rv_EV 84 [.ref p, .int n1, .int n2] w = ((rv_ri (rv_EV 99 [.int n1] w)).bind fun q1 => (bif rv_cnd .eq q1.1 0 then ((rv_ri (rv_EV 95 [.ref p, .int 0] q1.2)).bind fun q2 => some (some (.int q2.1), q2.2)) else ((rv_ri (rv_EV 0 [.int n2] q1.2)).bind fun q3 => (bif rv_cnd .ne q3.1 0 then ((rv_ldFR q3.2 p 3 0).bind fun a4 => ((rv_ldFR q3.2 a4 1 6).bind fun a5 => ((rv_ldI q3.2 a5 n1).bind fun x6 => ((rv_ldFR q3.2 p 3 0).bind fun a7 => ((rv_ri (rv_EV 10 [.ref a7, .int x6] q3.2)).bind fun q8 => (bif rv_cnd .ne q8.1 0 then ((rv_ldFR q8.2 p 3 0).bind fun a9 => ((rv_ldFR q8.2 a9 1 2).bind fun a10 => ((rv_ldI q8.2 a10 x6).bind fun x11 => ((rv_ri (rv_EV 1 [.int x11, .int n2] q8.2)).bind fun q12 => (bif rv_cnd .ne q12.1 0 then some (some (.int x6), q12.2) else ((rv_ri (rv_EV 95 [.ref p, .int 2] q12.2)).bind fun q13 => some (some (.int q13.1), q13.2))))))) else ((rv_ri (rv_EV 95 [.ref p, .int 5] q8.2)).bind fun q14 => some (some (.int q14.1), q14.2)))))))) else ((rv_ri (rv_EV 95 [.ref p, .int 0] q3.2)).bind fun q15 => some (some (.int q15.1), q15.2)))))) := by
  have e : rv_EV 84 [.ref p, .int n1, .int n2] w = rv_GO rc_X4_as 0 [some (.ref p), some (.int n1), some (.int n2), none] [] w := by
    show cond ((rv_obj w p 3).isSome && true) _ _ = _
    rw [hp]
    rfl
  rw [e, ← rv_blk_eq [] 30]
  rfl
set_option maxRecDepth 100000 in
set_option maxHeartbeats 4000000 in
theorem ev_X4_sheet (p : Nat) (n1 : Int32) (n2 : Int32) (n3 : Int32) (w : rv_W) (hp : (rv_obj w p 3).isSome = true) : rv_EV 85 [.ref p, .int n1, .int n2, .int n3] w = ((rv_ri (rv_EV 100 [.int n1] w)).bind fun q1 => (bif rv_cnd .eq q1.1 0 then ((rv_ri (rv_EV 95 [.ref p, .int 0] q1.2)).bind fun q2 => some (some (.int q2.1), q2.2)) else (bif rv_cnd .eq n2 0 then rv_GO rc_X4_sheet 35 [some (.ref p), some (.int n1), some (.int n2), some (.int n3)] [] q1.2 else (bif rv_cnd .eq n2 8 then rv_GO rc_X4_sheet 35 [some (.ref p), some (.int n1), some (.int n2), some (.int n3)] [] q1.2 else (bif rv_cnd .eq n2 16 then rv_GO rc_X4_sheet 35 [some (.ref p), some (.int n1), some (.int n2), some (.int n3)] [] q1.2 else (bif rv_cnd .eq n2 32 then rv_GO rc_X4_sheet 35 [some (.ref p), some (.int n1), some (.int n2), some (.int n3)] [] q1.2 else ((rv_ri (rv_EV 95 [.ref p, .int 0] q1.2)).bind fun q3 => some (some (.int q3.1), q3.2)))))))) := by
  have e : rv_EV 85 [.ref p, .int n1, .int n2, .int n3] w = rv_GO rc_X4_sheet 0 [some (.ref p), some (.int n1), some (.int n2), some (.int n3)] [] w := by
    show cond ((rv_obj w p 3).isSome && true) _ _ = _
    rw [hp]
    rfl
  rw [e, ← rv_blk_eq [35] 19]
  rfl
set_option maxRecDepth 100000 in
set_option maxHeartbeats 4000000 in
theorem bk_X4_sheet_35 (v0 : Nat) (v1 : Int32) (v2 : Int32) (v3 : Int32) (w : rv_W) : rv_GO rc_X4_sheet 35 [some (.ref v0), some (.int v1), some (.int v2), some (.int v3)] [] w = (bif rv_cnd .ge v3 0 then (bif rv_cnd .le v3 40 then ((rv_ldFR w v0 3 3).bind fun a1 => ((rv_ldQ w a1 v1).bind fun a2 => ((rv_rv (rv_EV 5 [.ref a2, .int v2, .int v3] w)).bind fun q3 => (bif rv_cnd .ne v2 0 then some (some (.int v3), q3) else some (some (.int 0), q3))))) else ((rv_ri (rv_EV 95 [.ref v0, .int 0] w)).bind fun q4 => some (some (.int q4.1), q4.2))) else ((rv_ri (rv_EV 95 [.ref v0, .int 6] w)).bind fun q5 => some (some (.int q5.1), q5.2))) := by
  rw [← rv_blk_eq [35] 18]
  rfl
set_option maxRecDepth 100000 in
set_option maxHeartbeats 4000000 in
theorem ev_X4_write (p : Nat) (n1 : Int32) (n2 : Int32) (n3 : Int32) (w : rv_W) (hp : (rv_obj w p 3).isSome = true) : rv_EV 86 [.ref p, .int n1, .int n2, .int n3] w = ((rv_ri (rv_EV 103 [.ref p, .int n1] w)).bind fun q1 => (bif rv_cnd .eq q1.1 (-1) then (bif rv_cnd .lt n2 0 then ((rv_ri (rv_EV 95 [.ref p, .int 0] q1.2)).bind fun q2 => some (some (.int q2.1), q2.2)) else ((rv_ldFR q1.2 p 3 3).bind fun a3 => ((rv_ldQ q1.2 a3 n1).bind fun a4 => ((rv_ldFI q1.2 a4 0 2).bind fun x5 => (bif rv_cnd .lt n2 x5 then ((rv_ldFR q1.2 p 3 3).bind fun a6 => ((rv_ldQ q1.2 a6 n1).bind fun a7 => ((rv_rv (rv_EV 8 [.ref a7, .int n2, .int n3] q1.2)).bind fun q8 => some (some (.int 1), q8)))) else ((rv_ri (rv_EV 95 [.ref p, .int 0] q1.2)).bind fun q9 => some (some (.int q9.1), q9.2))))))) else ((rv_ri (rv_EV 95 [.ref p, .int q1.1] q1.2)).bind fun q10 => some (some (.int q10.1), q10.2)))) := by
  have e : rv_EV 86 [.ref p, .int n1, .int n2, .int n3] w = rv_GO rc_X4_write 0 [some (.ref p), some (.int n1), some (.int n2), some (.int n3), none] [] w := by
    show cond ((rv_obj w p 3).isSome && true) _ _ = _
    rw [hp]
    rfl
  rw [e, ← rv_blk_eq [] 26]
  rfl
set_option maxRecDepth 100000 in
set_option maxHeartbeats 4000000 in
theorem ev_X4_copy (p : Nat) (n1 : Int32) (n2 : Int32) (n3 : Int32) (n4 : Int32) (n5 : Int32) (w : rv_W) (hp : (rv_obj w p 3).isSome = true) : rv_EV 87 [.ref p, .int n1, .int n2, .int n3, .int n4, .int n5] w = ((rv_ri (rv_EV 100 [.int n1] w)).bind fun q1 => (bif rv_cnd .eq q1.1 0 then ((rv_ri (rv_EV 95 [.ref p, .int 0] q1.2)).bind fun q2 => some (some (.int q2.1), q2.2)) else ((rv_ri (rv_EV 100 [.int n3] q1.2)).bind fun q3 => (bif rv_cnd .ne q3.1 0 then ((rv_ldFR q3.2 p 3 3).bind fun a4 => ((rv_ldQ q3.2 a4 n1).bind fun a5 => ((rv_ldFR q3.2 p 3 3).bind fun a6 => ((rv_ldQ q3.2 a6 n3).bind fun a7 => ((rv_ri (rv_EV 6 [.ref a5] q3.2)).bind fun q8 => (bif rv_cnd .ne q8.1 0 then ((rv_ri (rv_EV 95 [.ref p, .int 5] q8.2)).bind fun q9 => some (some (.int q9.1), q9.2)) else ((rv_ri (rv_EV 6 [.ref a7] q8.2)).bind fun q10 => (bif rv_cnd .eq q10.1 0 then ((rv_ldFI q10.2 a5 0 1).bind fun x11 => ((rv_ldFI q10.2 a7 0 1).bind fun x12 => (bif rv_cnd .eq x11 x12 then ((rv_ri (rv_EV 7 [.ref a5, .int n2, .int n5] q10.2)).bind fun q13 => (bif rv_cnd .eq q13.1 0 then ((rv_ri (rv_EV 95 [.ref p, .int 0] q13.2)).bind fun q14 => some (some (.int q14.1), q14.2)) else ((rv_ri (rv_EV 7 [.ref a7, .int n4, .int n5] q13.2)).bind fun q15 => (bif rv_cnd .ne q15.1 0 then ((rv_ldFR q15.2 a5 0 0).bind fun a16 => ((rv_ldFR q15.2 a7 0 0).bind fun a17 => ((rv_cpy q15.2 a16 n2 a17 n4 n5).bind fun w18 => some (some (.int n5), w18)))) else ((rv_ri (rv_EV 95 [.ref p, .int 0] q15.2)).bind fun q19 => some (some (.int q19.1), q19.2)))))) else ((rv_ri (rv_EV 95 [.ref p, .int 2] q10.2)).bind fun q20 => some (some (.int q20.1), q20.2))))) else ((rv_ri (rv_EV 95 [.ref p, .int 5] q10.2)).bind fun q21 => some (some (.int q21.1), q21.2)))))))))) else ((rv_ri (rv_EV 95 [.ref p, .int 0] q3.2)).bind fun q22 => some (some (.int q22.1), q22.2)))))) := by
  have e : rv_EV 87 [.ref p, .int n1, .int n2, .int n3, .int n4, .int n5] w = rv_GO rc_X4_copy 0 [some (.ref p), some (.int n1), some (.int n2), some (.int n3), some (.int n4), some (.int n5), none, none] [] w := by
    show cond ((rv_obj w p 3).isSome && true) _ _ = _
    rw [hp]
    rfl
  rw [e, ← rv_blk_eq [] 48]
  rfl
set_option maxRecDepth 100000 in
set_option maxHeartbeats 4000000 in
theorem ev_X4_load (p : Nat) (n1 : Int32) (w : rv_W) (hp : (rv_obj w p 3).isSome = true) : rv_EV 88 [.ref p, .int n1] w = ((rv_ri (rv_EV 103 [.ref p, .int n1] w)).bind fun q1 => (bif rv_cnd .eq q1.1 (-1) then ((rv_ldFR q1.2 p 3 3).bind fun a2 => ((rv_ldQ q1.2 a2 n1).bind fun a3 => rv_GO rc_X4_load 27 [some (.ref p), none, none, some (.ref a3), some (.int 0)] [] q1.2)) else ((rv_ri (rv_EV 95 [.ref p, .int q1.1] q1.2)).bind fun q4 => some (some (.int q4.1), q4.2)))) := by
  have e : rv_EV 88 [.ref p, .int n1] w = rv_GO rc_X4_load 0 [some (.ref p), some (.int n1), none, none, none] [] w := by
    show cond ((rv_obj w p 3).isSome && true) _ _ = _
    rw [hp]
    rfl
  rw [e, ← rv_blk_eq [27] 16]
  rfl
set_option maxRecDepth 100000 in
set_option maxHeartbeats 4000000 in
theorem bk_X4_load_27 (v0 : Nat) (v3 : Nat) (v4 : Int32) (w : rv_W) : rv_GO rc_X4_load 27 [some (.ref v0), none, none, some (.ref v3), some (.int v4)] [] w = ((rv_ldFI w v3 0 2).bind fun x1 => (bif rv_cnd .ge v4 x1 then some (some (.int v4), w) else (bif rv_cnd .ge v4 10 then some (some (.int v4), w) else ((rv_ldFR w v3 0 0).bind fun a2 => ((rv_ldI w a2 v4).bind fun x3 => ((rv_ri (rv_EV 96 [.int x3, .int 99] w)).bind fun q4 => (bif rv_cnd .eq q4.1 0 then some (some (.int v4), q4.2) else ((rv_ldFR q4.2 v0 3 0).bind fun a5 => ((rv_ldFR q4.2 a5 1 0).bind fun a6 => ((rv_ldFR q4.2 v3 0 0).bind fun a7 => ((rv_ldI q4.2 a7 v4).bind fun x8 => ((rv_stI q4.2 a6 v4 x8).bind fun w9 => rv_GO rc_X4_load 27 [some (.ref v0), none, none, some (.ref v3), some (.int (v4 + 1))] [] w9)))))))))))) := by
  rw [← rv_blk_eq [27] 27]
  rfl
set_option maxRecDepth 100000 in
set_option maxHeartbeats 4000000 in
theorem ev_X4_judge (p : Nat) (n1 : Int32) (w : rv_W) (hp : (rv_obj w p 3).isSome = true) : rv_EV 89 [.ref p, .int n1] w = ((rv_ri (rv_EV 103 [.ref p, .int n1] w)).bind fun q1 => (bif rv_cnd .eq q1.1 (-1) then ((rv_ldFR q1.2 p 3 3).bind fun a2 => ((rv_ldQ q1.2 a2 n1).bind fun a3 => rv_GO rc_X4_judge 27 [some (.ref p), none, none, some (.ref a3), some (.int 0)] [] q1.2)) else ((rv_ri (rv_EV 95 [.ref p, .int q1.1] q1.2)).bind fun q4 => some (some (.int q4.1), q4.2)))) := by
  have e : rv_EV 89 [.ref p, .int n1] w = rv_GO rc_X4_judge 0 [some (.ref p), some (.int n1), none, none, none] [] w := by
    show cond ((rv_obj w p 3).isSome && true) _ _ = _
    rw [hp]
    rfl
  rw [e, ← rv_blk_eq [27] 16]
  rfl
set_option maxRecDepth 100000 in
set_option maxHeartbeats 4000000 in
theorem bk_X4_judge_27 (v0 : Nat) (v3 : Nat) (v4 : Int32) (w : rv_W) : rv_GO rc_X4_judge 27 [some (.ref v0), none, none, some (.ref v3), some (.int v4)] [] w = ((rv_ldFI w v3 0 2).bind fun x1 => (bif rv_cnd .ge v4 x1 then some (some (.int 0), w) else ((rv_ldFR w v0 3 0).bind fun a2 => ((rv_ri (rv_EV 10 [.ref a2, .int v4] w)).bind fun q3 => (bif rv_cnd .eq q3.1 0 then some (some (.int (1 + v4)), q3.2) else ((rv_ldFR q3.2 v0 3 0).bind fun a4 => ((rv_ldFR q3.2 a4 1 5).bind fun a5 => ((rv_ldI q3.2 a5 v4).bind fun x6 => ((rv_ldFR q3.2 v3 0 0).bind fun a7 => ((rv_ldI q3.2 a7 v4).bind fun x8 => (bif rv_cnd .eq x6 x8 then rv_GO rc_X4_judge 27 [some (.ref v0), none, none, some (.ref v3), some (.int (v4 + 1))] [] q3.2 else some (some (.int (1 + v4)), q3.2)))))))))))) := by
  rw [← rv_blk_eq [27] 24]
  rfl
set_option maxRecDepth 100000 in
set_option maxHeartbeats 4000000 in
theorem ev_X4_image (p : Nat) (w : rv_W) (hp : (rv_obj w p 3).isSome = true) : rv_EV 90 [.ref p] w = ((rv_ldFR w p 3 1).bind fun a1 => ((rv_ldFR w p 3 0).bind fun a2 => ((rv_rv (rv_EV 9 [.ref a1, .ref a2] w)).bind fun q3 => ((rv_stF q3 p 3 8 (.int 1)).bind fun w4 => some (some (.int 1), w4))))) := by
  have e : rv_EV 90 [.ref p] w = rv_GO rc_X4_image 0 [some (.ref p)] [] w := by
    show cond ((rv_obj w p 3).isSome && true) _ _ = _
    rw [hp]
    rfl
  rw [e, ← rv_blk_eq [] 11]
  rfl
set_option maxRecDepth 100000 in
set_option maxHeartbeats 4000000 in
theorem ev_X4_undo (p : Nat) (w : rv_W) (hp : (rv_obj w p 3).isSome = true) : rv_EV 91 [.ref p] w = ((rv_ldFI w p 3 8).bind fun x1 => (bif rv_cnd .ne x1 0 then ((rv_ldFR w p 3 0).bind fun a2 => ((rv_ldFR w p 3 1).bind fun a3 => ((rv_rv (rv_EV 9 [.ref a2, .ref a3] w)).bind fun q4 => ((rv_ldFR q4 p 3 0).bind fun a5 => ((rv_ldFI q4 a5 1 9).bind fun x6 => some (some (.int x6), q4)))))) else ((rv_ri (rv_EV 95 [.ref p, .int 3] w)).bind fun q7 => some (some (.int q7.1), q7.2)))) := by
  have e : rv_EV 91 [.ref p] w = rv_GO rc_X4_undo 0 [some (.ref p)] [] w := by
    show cond ((rv_obj w p 3).isSome && true) _ _ = _
    rw [hp]
    rfl
  rw [e, ← rv_blk_eq [] 13]
  rfl
set_option maxRecDepth 100000 in
set_option maxHeartbeats 4000000 in
theorem ev_X4_tear (p : Nat) (w : rv_W) (hp : (rv_obj w p 3).isSome = true) : rv_EV 92 [.ref p] w = ((rv_ldFI w p 3 8).bind fun x1 => (bif rv_cnd .eq x1 0 then ((rv_stF w p 3 8 (.int 0)).bind fun w2 => some (some (.int 0), w2)) else ((rv_stF w p 3 8 (.int 0)).bind fun w3 => some (some (.int 1), w3)))) := by
  have e : rv_EV 92 [.ref p] w = rv_GO rc_X4_tear 0 [some (.ref p), none] [] w := by
    show cond ((rv_obj w p 3).isSome && true) _ _ = _
    rw [hp]
    rfl
  rw [e, ← rv_blk_eq [] 12]
  rfl
set_option maxRecDepth 100000 in
set_option maxHeartbeats 4000000 in
theorem ev_X4_count (p : Nat) (n1 : Int32) (w : rv_W) (hp : (rv_obj w p 3).isSome = true) : rv_EV 93 [.ref p, .int n1] w = ((rv_ri (rv_EV 96 [.int n1, .int 7] w)).bind fun q1 => (bif rv_cnd .ne q1.1 0 then (bif rv_eq n1 (Int32.ofInt 1) then ((rv_ldFR q1.2 p 3 0).bind fun a15 => ((rv_ldFI q1.2 a15 1 7).bind fun x16 => some (some (.int x16), q1.2))) else (bif rv_eq n1 (Int32.ofInt 2) then ((rv_ldFR q1.2 p 3 0).bind fun a13 => ((rv_ri (rv_EV 32 [.ref a13] q1.2)).bind fun q14 => some (some (.int q14.1), q14.2))) else (bif rv_eq n1 (Int32.ofInt 3) then ((rv_ldFR q1.2 p 3 0).bind fun a11 => ((rv_ri (rv_EV 35 [.ref a11] q1.2)).bind fun q12 => some (some (.int q12.1), q12.2))) else (bif rv_eq n1 (Int32.ofInt 4) then ((rv_ldFR q1.2 p 3 0).bind fun a9 => ((rv_ri (rv_EV 36 [.ref a9] q1.2)).bind fun q10 => some (some (.int q10.1), q10.2))) else (bif rv_eq n1 (Int32.ofInt 5) then ((rv_ldFI q1.2 p 3 7).bind fun x8 => some (some (.int x8), q1.2)) else (bif rv_eq n1 (Int32.ofInt 6) then ((rv_ldFR q1.2 p 3 0).bind fun a6 => ((rv_ldFI q1.2 a6 1 10).bind fun x7 => some (some (.int x7), q1.2))) else (bif rv_eq n1 (Int32.ofInt 7) then ((rv_ldFR q1.2 p 3 0).bind fun a4 => ((rv_ri (rv_EV 37 [.ref a4] q1.2)).bind fun q5 => some (some (.int q5.1), q5.2))) else ((rv_ldFR q1.2 p 3 0).bind fun a2 => ((rv_ldFI q1.2 a2 1 9).bind fun x3 => some (some (.int x3), q1.2)))))))))) else ((rv_ri (rv_EV 95 [.ref p, .int 0] q1.2)).bind fun q17 => some (some (.int q17.1), q17.2)))) := by
  have e : rv_EV 93 [.ref p, .int n1] w = rv_GO rc_X4_count 0 [some (.ref p), some (.int n1)] [] w := by
    show cond ((rv_obj w p 3).isSome && true) _ _ = _
    rw [hp]
    rfl
  rw [e, ← rv_blk_eq [] 11]
  rfl
set_option maxRecDepth 100000 in
set_option maxHeartbeats 4000000 in
theorem ev_X4_status (p : Nat) (n1 : Int32) (w : rv_W) (hp : (rv_obj w p 3).isSome = true) : rv_EV 94 [.ref p, .int n1] w = (bif rv_cnd .lt n1 (-1) then ((rv_ri (rv_EV 95 [.ref p, .int 0] w)).bind fun q1 => some (some (.int q1.1), q1.2)) else (bif rv_cnd .lt n1 7 then (bif rv_cnd .lt n1 0 then ((rv_ldFR w p 3 6).bind fun a2 => ((rv_len w a2).bind fun x3 => rv_GO rc_X4_status 42 [none, none, some (.int 0), some (.ref a2), some (.int x3), some (.int 0), none] [] w)) else ((rv_ldFR w p 3 6).bind fun a4 => ((rv_ldI w a4 n1).bind fun x5 => some (some (.int x5), w)))) else ((rv_ri (rv_EV 95 [.ref p, .int 0] w)).bind fun q6 => some (some (.int q6.1), q6.2)))) := by
  have e : rv_EV 94 [.ref p, .int n1] w = rv_GO rc_X4_status 0 [some (.ref p), some (.int n1), none, none, none, none, none] [] w := by
    show cond ((rv_obj w p 3).isSome && true) _ _ = _
    rw [hp]
    rfl
  rw [e, ← rv_blk_eq [42] 20]
  rfl
set_option maxRecDepth 100000 in
set_option maxHeartbeats 4000000 in
theorem bk_X4_status_42 (v2 : Int32) (v3 : Nat) (v4 : Int32) (v5 : Int32) (w : rv_W) : rv_GO rc_X4_status 42 [none, none, some (.int v2), some (.ref v3), some (.int v4), some (.int v5), none] [] w = (bif rv_cnd .ge v5 v4 then some (some (.int v2), w) else ((rv_ldI w v3 v5).bind fun x1 => rv_GO rc_X4_status 42 [none, none, some (.int (v2 + x1)), some (.ref v3), some (.int v4), some (.int (v5 + 1)), none] [] w)) := by
  rw [← rv_blk_eq [42] 15]
  rfl
set_option maxRecDepth 100000 in
set_option maxHeartbeats 4000000 in
theorem ev_X4_finding (p : Nat) (n1 : Int32) (w : rv_W) (hp : (rv_obj w p 3).isSome = true) : rv_EV 95 [.ref p, .int n1] w = ((rv_ldFR w p 3 6).bind fun a1 => ((rv_ldI w a1 n1).bind fun x2 => ((rv_stI w a1 n1 (x2 + 1)).bind fun w3 => some (some (.int ((-1000001) - n1)), w3)))) := by
  have e : rv_EV 95 [.ref p, .int n1] w = rv_GO rc_X4_finding 0 [some (.ref p), some (.int n1)] [] w := by
    show cond ((rv_obj w p 3).isSome && true) _ _ = _
    rw [hp]
    rfl
  rw [e, ← rv_blk_eq [] 13]
  rfl
set_option maxRecDepth 100000 in
set_option maxHeartbeats 4000000 in
theorem ev_X4_isWithin (n1 : Int32) (n2 : Int32) (w : rv_W) : rv_EV 96 [.int n1, .int n2] w = (bif rv_cnd .lt n1 0 then some (some (.int 0), w) else (bif rv_cnd .gt n1 n2 then some (some (.int 0), w) else some (some (.int 1), w))) := by
  have e : rv_EV 96 [.int n1, .int n2] w = rv_GO rc_X4_isWithin 0 [some (.int n1), some (.int n2)] [] w := by
    rfl
  rw [e, ← rv_blk_eq [] 9]
  rfl
set_option maxRecDepth 100000 in
set_option maxHeartbeats 4000000 in
theorem ev_X4_isTub (n1 : Int32) (w : rv_W) : rv_EV 97 [.int n1] w = (bif rv_cnd .lt n1 0 then some (some (.int 0), w) else (bif rv_cnd .ge n1 10 then some (some (.int 0), w) else some (some (.int 1), w))) := by
  have e : rv_EV 97 [.int n1] w = rv_GO rc_X4_isTub 0 [some (.int n1)] [] w := by
    rfl
  rw [e, ← rv_blk_eq [] 9]
  rfl
set_option maxRecDepth 100000 in
set_option maxHeartbeats 4000000 in
theorem ev_X4_isScent (n1 : Int32) (w : rv_W) : rv_EV 98 [.int n1] w = (bif rv_cnd .lt n1 0 then some (some (.int 0), w) else (bif rv_cnd .ge n1 4 then some (some (.int 0), w) else some (some (.int 1), w))) := by
  have e : rv_EV 98 [.int n1] w = rv_GO rc_X4_isScent 0 [some (.int n1)] [] w := by
    rfl
  rw [e, ← rv_blk_eq [] 9]
  rfl
set_option maxRecDepth 100000 in
set_option maxHeartbeats 4000000 in
theorem ev_X4_isSpot (n1 : Int32) (w : rv_W) : rv_EV 99 [.int n1] w = (bif rv_cnd .lt n1 0 then some (some (.int 0), w) else (bif rv_cnd .ge n1 10 then some (some (.int 0), w) else some (some (.int 1), w))) := by
  have e : rv_EV 99 [.int n1] w = rv_GO rc_X4_isSpot 0 [some (.int n1)] [] w := by
    rfl
  rw [e, ← rv_blk_eq [] 9]
  rfl
set_option maxRecDepth 100000 in
set_option maxHeartbeats 4000000 in
theorem ev_X4_isSheet (n1 : Int32) (w : rv_W) : rv_EV 100 [.int n1] w = (bif rv_cnd .lt n1 0 then some (some (.int 0), w) else (bif rv_cnd .ge n1 4 then some (some (.int 0), w) else some (some (.int 1), w))) := by
  have e : rv_EV 100 [.int n1] w = rv_GO rc_X4_isSheet 0 [some (.int n1)] [] w := by
    rfl
  rw [e, ← rv_blk_eq [] 9]
  rfl
set_option maxRecDepth 100000 in
set_option maxHeartbeats 4000000 in
theorem ev_X4_mostOf (n1 : Int32) (w : rv_W) : rv_EV 101 [.int n1] w = (bif rv_eq n1 (Int32.ofInt 0) then some (some (.int 6), w) else (bif rv_eq n1 (Int32.ofInt 1) then some (some (.int 9), w) else (bif rv_eq n1 (Int32.ofInt 2) then some (some (.int 3), w) else some (some (.int 15), w)))) := by
  have e : rv_EV 101 [.int n1] w = rv_GO rc_X4_mostOf 0 [some (.int n1)] [] w := by
    rfl
  rw [e, ← rv_blk_eq [] 5]
  rfl
set_option maxRecDepth 100000 in
set_option maxHeartbeats 4000000 in
theorem ev_X4_greatestCommonPart (n1 : Int32) (n2 : Int32) (w : rv_W) : rv_EV 102 [.int n1, .int n2] w = rv_GO rc_X4_greatestCommonPart 6 [some (.int n1), some (.int n2), some (.int (rv_min n1 n2))] [] w := by
  have e : rv_EV 102 [.int n1, .int n2] w = rv_GO rc_X4_greatestCommonPart 0 [some (.int n1), some (.int n2), none] [] w := by
    rfl
  rw [e, ← rv_blk_eq [6] 6]
  rfl
set_option maxRecDepth 100000 in
set_option maxHeartbeats 4000000 in
theorem bk_X4_greatestCommonPart_6 (v0 : Int32) (v1 : Int32) (v2 : Int32) (w : rv_W) : rv_GO rc_X4_greatestCommonPart 6 [some (.int v0), some (.int v1), some (.int v2)] [] w = (bif rv_cnd .le v2 1 then some (some (.int 1), w) else (bif rv_eq v2 0 then none else (bif rv_cnd .ne (v0 - v0 / v2 * v2) 0 then rv_GO rc_X4_greatestCommonPart 6 [some (.int v0), some (.int v1), some (.int (v2 + (-1)))] [] w else (bif rv_eq v2 0 then none else (bif rv_cnd .ne (v1 - v1 / v2 * v2) 0 then rv_GO rc_X4_greatestCommonPart 6 [some (.int v0), some (.int v1), some (.int (v2 + (-1)))] [] w else some (some (.int v2), w)))))) := by
  rw [← rv_blk_eq [6] 15]
  rfl
set_option maxRecDepth 100000 in
set_option maxHeartbeats 4000000 in
theorem ev_X4_lackOf (p : Nat) (n1 : Int32) (w : rv_W) (hp : (rv_obj w p 3).isSome = true) : rv_EV 103 [.ref p, .int n1] w = ((rv_ri (rv_EV 100 [.int n1] w)).bind fun q1 => (bif rv_cnd .ne q1.1 0 then ((rv_ldFR q1.2 p 3 3).bind fun a2 => ((rv_ldQ q1.2 a2 n1).bind fun a3 => ((rv_ri (rv_EV 6 [.ref a3] q1.2)).bind fun q4 => (bif rv_cnd .eq q4.1 0 then some (some (.int (-1)), q4.2) else some (some (.int 5), q4.2))))) else some (some (.int 0), q1.2))) := by
  have e : rv_EV 103 [.ref p, .int n1] w = rv_GO rc_X4_lackOf 0 [some (.ref p), some (.int n1)] [] w := by
    show cond ((rv_obj w p 3).isSome && true) _ _ = _
    rw [hp]
    rfl
  rw [e, ← rv_blk_eq [] 13]
  rfl
set_option maxRecDepth 100000 in
set_option maxHeartbeats 4000000 in
theorem ev_X4_hoursUntilKnown (p : Nat) (n1 : Int32) (n2 : Int32) (n3 : Int32) (w : rv_W) (hp : (rv_obj w p 3).isSome = true) : rv_EV 104 [.ref p, .int n1, .int n2, .int n3] w = rv_GO rc_X4_hoursUntilKnown 3 [some (.ref p), some (.int n1), some (.int n2), some (.int n3), some (.int 0)] [] w := by
  have e : rv_EV 104 [.ref p, .int n1, .int n2, .int n3] w = rv_GO rc_X4_hoursUntilKnown 0 [some (.ref p), some (.int n1), some (.int n2), some (.int n3), none] [] w := by
    show cond ((rv_obj w p 3).isSome && true) _ _ = _
    rw [hp]
    rfl
  rw [e, ← rv_blk_eq [3] 4]
  rfl
set_option maxRecDepth 100000 in
set_option maxHeartbeats 4000000 in
theorem bk_X4_hoursUntilKnown_3 (v0 : Nat) (v1 : Int32) (v2 : Int32) (v3 : Int32) (v4 : Int32) (w : rv_W) : rv_GO rc_X4_hoursUntilKnown 3 [some (.ref v0), some (.int v1), some (.int v2), some (.int v3), some (.int v4)] [] w = (bif rv_cnd .gt v4 v3 then some (some (.int (-1)), w) else ((rv_ldFR w v0 3 2).bind fun a1 => ((rv_ldFR w a1 1 5).bind fun a2 => ((rv_ldI w a2 v1).bind fun x3 => (bif rv_cnd .eq ((x3 >>> (v2 &&& 31)) &&& 1) 0 then ((rv_ldFR w v0 3 2).bind fun a4 => ((rv_rv (rv_EV 21 [.ref a4] w)).bind fun q5 => rv_GO rc_X4_hoursUntilKnown 3 [some (.ref v0), some (.int v1), some (.int v2), some (.int v3), some (.int (v4 + 1))] [] q5)) else some (some (.int v4), w)))))) := by
  rw [← rv_blk_eq [3] 20]
  rfl
set_option maxRecDepth 100000 in
set_option maxHeartbeats 4000000 in
theorem ev_X4_isLearned (p : Nat) (n1 : Int32) (n2 : Int32) (w : rv_W) (hp : (rv_obj w p 3).isSome = true) : rv_EV 105 [.ref p, .int n1, .int n2] w = ((rv_ldFR w p 3 2).bind fun a1 => ((rv_ri (rv_EV 29 [.ref a1, .int n1] w)).bind fun q2 => rv_GO rc_X4_isLearned 12 [some (.ref p), some (.int n1), some (.int n2), some (.int q2.1), some (.int 0)] [] q2.2)) := by
  have e : rv_EV 105 [.ref p, .int n1, .int n2] w = rv_GO rc_X4_isLearned 0 [some (.ref p), some (.int n1), some (.int n2), none, none] [] w := by
    show cond ((rv_obj w p 3).isSome && true) _ _ = _
    rw [hp]
    rfl
  rw [e, ← rv_blk_eq [12] 9]
  rfl
set_option maxRecDepth 100000 in
set_option maxHeartbeats 4000000 in
theorem bk_X4_isLearned_12 (v0 : Nat) (v1 : Int32) (v2 : Int32) (v3 : Int32) (v4 : Int32) (w : rv_W) : rv_GO rc_X4_isLearned 12 [some (.ref v0), some (.int v1), some (.int v2), some (.int v3), some (.int v4)] [] w = (bif rv_cnd .ge v4 v2 then some (some (.int 0), w) else ((rv_ldFR w v0 3 2).bind fun a1 => ((rv_rv (rv_EV 21 [.ref a1] w)).bind fun q2 => ((rv_ldFR q2 v0 3 2).bind fun a3 => ((rv_ri (rv_EV 29 [.ref a3, .int v1] q2)).bind fun q4 => (bif rv_cnd .eq q4.1 v3 then rv_GO rc_X4_isLearned 12 [some (.ref v0), some (.int v1), some (.int v2), some (.int v3), some (.int (v4 + 1))] [] q4.2 else some (some (.int 1), q4.2))))))) := by
  rw [← rv_blk_eq [12] 16]
  rfl
set_option maxRecDepth 100000 in
set_option maxHeartbeats 4000000 in
theorem ev_X4_comesOutAs (p : Nat) (n1 : Nat) (w : rv_W) (hp : (rv_obj w p 3).isSome = true) : rv_EV 106 [.ref p, .ref n1] w = rv_GO rc_X4_comesOutAs 2 [some (.ref p), some (.ref n1), some (.int 0), none] [] w := by
  have e : rv_EV 106 [.ref p, .ref n1] w = rv_GO rc_X4_comesOutAs 0 [some (.ref p), some (.ref n1), none, none] [] w := by
    show cond ((rv_obj w p 3).isSome && true) _ _ = _
    rw [hp]
    rfl
  rw [e, ← rv_blk_eq [2, 21] 4]
  rfl
set_option maxRecDepth 100000 in
set_option maxHeartbeats 4000000 in
theorem bk_X4_comesOutAs_2 (v0 : Nat) (v1 : Nat) (v2 : Int32) (w : rv_W) : rv_GO rc_X4_comesOutAs 2 [some (.ref v0), some (.ref v1), some (.int v2), none] [] w = ((rv_ldFI w v1 0 2).bind fun x1 => (bif rv_cnd .ge v2 x1 then some (some (.int 1), w) else (bif rv_cnd .le v2 0 then rv_GO rc_X4_comesOutAs 21 [some (.ref v0), some (.ref v1), some (.int v2), none] [] w else ((rv_ldFR w v0 3 2).bind fun a2 => ((rv_rv (rv_EV 21 [.ref a2] w)).bind fun q3 => rv_GO rc_X4_comesOutAs 21 [some (.ref v0), some (.ref v1), some (.int v2), none] [] q3))))) := by
  rw [← rv_blk_eq [2, 21] 11]
  rfl
set_option maxRecDepth 100000 in
set_option maxHeartbeats 4000000 in
theorem bk_X4_comesOutAs_21 (v0 : Nat) (v1 : Nat) (v2 : Int32) (w : rv_W) : rv_GO rc_X4_comesOutAs 21 [some (.ref v0), some (.ref v1), some (.int v2), none] [] w = ((rv_ldFR w v1 0 0).bind fun a1 => ((rv_ldI w a1 v2).bind fun x2 => (bif rv_cnd .eq x2 (-1) then rv_GO rc_X4_comesOutAs 2 [some (.ref v0), some (.ref v1), some (.int (v2 + 1)), none] [] w else ((rv_ldFR w v0 3 2).bind fun a3 => ((rv_ri (rv_EV 15 [.ref a3, .int 9, .int 0] w)).bind fun q4 => (bif rv_cnd .eq x2 q4.1 then rv_GO rc_X4_comesOutAs 2 [some (.ref v0), some (.ref v1), some (.int (v2 + 1)), none] [] q4.2 else some (some (.int 0), q4.2))))))) := by
  rw [← rv_blk_eq [2, 21] 19]
  rfl
