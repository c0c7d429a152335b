set_option maxRecDepth 100000 in
set_option maxHeartbeats 4000000 in
theorem ev_X5_isIn (n1 : Int64) (n2 : Int64) (n3 : Int64) (w : rv_W) : rv_EV 107 [.long n1, .long n2, .long n3] w = (bif rv_cnd .lt (lg_cmp n1 n2) 0 then some (some (.int 0), w) else (bif rv_cnd .gt (lg_cmp n1 n3) 0 then some (some (.int 0), w) else some (some (.int 1), w))) := by
  have e : rv_EV 107 [.long n1, .long n2, .long n3] w = rv_GO rc_X5_isIn 0 [some (.long n1), none, some (.long n2), none, some (.long n3), none] [] w := by
    rfl
  rw [e, ← rv_blk_eq [] 12]
  rfl
set_option maxRecDepth 100000 in
set_option maxHeartbeats 4000000 in
theorem ev_X5_finds (p : Nat) (n1 : Int32) (w : rv_W) (hp : (rv_obj w p 4).isSome = true) : rv_EV 108 [.ref p, .int n1] w = ((rv_ldFR w p 4 5).bind fun a1 => ((rv_ldI w a1 0).bind fun x2 => ((rv_stI w a1 0 (x2 + 1)).bind fun w3 => ((rv_ldFR w3 p 4 5).bind fun a4 => ((rv_ldI w3 a4 (((-1000001) - n1) + 1)).bind fun x5 => ((rv_stI w3 a4 (((-1000001) - n1) + 1) (x5 + 1)).bind fun w6 => some (some (.int n1), w6))))))) := by
  have e : rv_EV 108 [.ref p, .int n1] w = rv_GO rc_X5_finds 0 [some (.ref p), some (.int n1)] [] w := by
    show cond ((rv_obj w p 4).isSome && true) _ _ = _
    rw [hp]
    rfl
  rw [e, ← rv_blk_eq [] 23]
  rfl
set_option maxRecDepth 100000 in
set_option maxHeartbeats 4000000 in
theorem ev_X5_becomes (p : Nat) (n1 : Int32) (n2 : Int32) (w : rv_W) (hp : (rv_obj w p 4).isSome = true) : rv_EV 109 [.ref p, .int n1, .int n2] w = ((rv_ldFR w p 4 0).bind fun a1 => ((rv_ldI w a1 n1).bind fun x2 => ((rv_ldFR w p 4 0).bind fun a3 => ((rv_stI w a3 n1 n2).bind fun w4 => some (some (.int x2), w4))))) := by
  have e : rv_EV 109 [.ref p, .int n1, .int n2] w = rv_GO rc_X5_becomes 0 [some (.ref p), some (.int n1), some (.int n2), none] [] w := by
    show cond ((rv_obj w p 4).isSome && true) _ _ = _
    rw [hp]
    rfl
  rw [e, ← rv_blk_eq [] 13]
  rfl
set_option maxRecDepth 100000 in
set_option maxHeartbeats 4000000 in
theorem ev_X5_copyRow (n1 : Nat) (n2 : Nat) (w : rv_W) : rv_EV 110 [.ref n1, .ref n2] w = rv_GO rc_X5_copyRow 2 [some (.ref n1), some (.ref n2), some (.int 0)] [] w := by
  have e : rv_EV 110 [.ref n1, .ref n2] w = rv_GO rc_X5_copyRow 0 [some (.ref n1), some (.ref n2), none] [] w := by
    rfl
  rw [e, ← rv_blk_eq [2] 4]
  rfl
set_option maxRecDepth 100000 in
set_option maxHeartbeats 4000000 in
theorem bk_X5_copyRow_2 (v0 : Nat) (v1 : Nat) (v2 : Int32) (w : rv_W) : rv_GO rc_X5_copyRow 2 [some (.ref v0), some (.ref v1), some (.int v2)] [] w = (bif rv_cnd .ge v2 96 then some (none, w) else ((rv_ldI w v0 v2).bind fun x1 => ((rv_stI w v1 v2 x1).bind fun w2 => rv_GO rc_X5_copyRow 2 [some (.ref v0), some (.ref v1), some (.int (v2 + 1))] [] w2))) := by
  rw [← rv_blk_eq [2] 13]
  rfl
set_option maxRecDepth 100000 in
set_option maxHeartbeats 4000000 in
theorem ev_X5_isTub (n1 : Int32) (w : rv_W) : rv_EV 111 [.int n1] w = (bif rv_cnd .lt n1 0 then some (some (.int 0), w) else (bif rv_cnd .ge n1 10 then some (some (.int 0), w) else some (some (.int 1), w))) := by
  have e : rv_EV 111 [.int n1] w = rv_GO rc_X5_isTub 0 [some (.int n1)] [] w := by
    rfl
  rw [e, ← rv_blk_eq [] 9]
  rfl
set_option maxRecDepth 100000 in
set_option maxHeartbeats 4000000 in
theorem ev_X5_isScent (n1 : Int32) (w : rv_W) : rv_EV 112 [.int n1] w = (bif rv_cnd .lt n1 0 then some (some (.int 0), w) else (bif rv_cnd .ge n1 4 then some (some (.int 0), w) else some (some (.int 1), w))) := by
  have e : rv_EV 112 [.int n1] w = rv_GO rc_X5_isScent 0 [some (.int n1)] [] w := by
    rfl
  rw [e, ← rv_blk_eq [] 9]
  rfl
set_option maxRecDepth 100000 in
set_option maxHeartbeats 4000000 in
theorem ev_X5_isBather (p : Nat) (n1 : Int32) (w : rv_W) (hp : (rv_obj w p 4).isSome = true) : rv_EV 113 [.ref p, .int n1] w = (bif rv_cnd .lt n1 0 then some (some (.int 0), w) else ((rv_ldFR w p 4 0).bind fun a1 => ((rv_ldI w a1 0).bind fun x2 => (bif rv_cnd .ge n1 x2 then some (some (.int 0), w) else some (some (.int 1), w))))) := by
  have e : rv_EV 113 [.ref p, .int n1] w = rv_GO rc_X5_isBather 0 [some (.ref p), some (.int n1)] [] w := by
    show cond ((rv_obj w p 4).isSome && true) _ _ = _
    rw [hp]
    rfl
  rw [e, ← rv_blk_eq [] 12]
  rfl
set_option maxRecDepth 100000 in
set_option maxHeartbeats 4000000 in
theorem ev_X5_its (p : Nat) (n1 : Int32) (n2 : Int32) (w : rv_W) (hp : (rv_obj w p 4).isSome = true) : rv_EV 114 [.ref p, .int n1, .int n2] w = ((rv_ldFR w p 4 0).bind fun a1 => ((rv_ldI w a1 ((54 + (4 * n1)) + n2)).bind fun x2 => some (some (.int x2), w))) := by
  have e : rv_EV 114 [.ref p, .int n1, .int n2] w = rv_GO rc_X5_its 0 [some (.ref p), some (.int n1), some (.int n2)] [] w := by
    show cond ((rv_obj w p 4).isSome && true) _ _ = _
    rw [hp]
    rfl
  rw [e, ← rv_blk_eq [] 12]
  rfl
set_option maxRecDepth 100000 in
set_option maxHeartbeats 4000000 in
theorem ev_X5_orNone (p : Nat) (n1 : Int32) (w : rv_W) (hp : (rv_obj w p 4).isSome = true) : rv_EV 115 [.ref p, .int n1] w = (bif rv_cnd .ge n1 0 then some (some (.int n1), w) else ((rv_ri (rv_EV 108 [.ref p, .int (-1000004)] w)).bind fun q1 => some (some (.int q1.1), q1.2))) := by
  have e : rv_EV 115 [.ref p, .int n1] w = rv_GO rc_X5_orNone 0 [some (.ref p), some (.int n1)] [] w := by
    show cond ((rv_obj w p 4).isSome && true) _ _ = _
    rw [hp]
    rfl
  rw [e, ← rv_blk_eq [] 8]
  rfl
set_option maxRecDepth 100000 in
set_option maxHeartbeats 4000000 in
theorem ev_X5_many (n1 : Int32) (w : rv_W) : rv_EV 116 [.int n1] w = rv_GO rc_X5_many 4 [none, some (.int 0), some (.int n1)] [] w := by
  have e : rv_EV 116 [.int n1] w = rv_GO rc_X5_many 0 [some (.int n1), none, none] [] w := by
    rfl
  rw [e, ← rv_blk_eq [4] 6]
  rfl
set_option maxRecDepth 100000 in
set_option maxHeartbeats 4000000 in
theorem bk_X5_many_4 (v1 : Int32) (v2 : Int32) (w : rv_W) : rv_GO rc_X5_many 4 [none, some (.int v1), some (.int v2)] [] w = (bif rv_cnd .eq v2 0 then some (some (.int v1), w) else rv_GO rc_X5_many 4 [none, some (.int (v1 + 1)), some (.int (v2 &&& (v2 - 1)))] [] w) := by
  rw [← rv_blk_eq [4] 12]
  rfl
set_option maxRecDepth 100000 in
set_option maxHeartbeats 4000000 in
theorem ev_X5_warm (p : Nat) (n1 : Int32) (n2 : Int32) (w : rv_W) (hp : (rv_obj w p 4).isSome = true) : rv_EV 117 [.ref p, .int n1, .int n2] w = ((rv_ri (rv_EV 111 [.int n1] w)).bind fun q1 => (bif rv_cnd .eq q1.1 0 then ((rv_ri (rv_EV 108 [.ref p, .int (-1000001)] q1.2)).bind fun q2 => some (some (.int q2.1), q2.2)) else ((rv_ri (rv_EV 107 [.long (Int32.toInt64 n2), .long (Int32.toInt64 0), .long (Int32.toInt64 99)] q1.2)).bind fun q3 => (bif rv_cnd .eq q3.1 0 then ((rv_ri (rv_EV 108 [.ref p, .int (-1000001)] q3.2)).bind fun q4 => some (some (.int q4.1), q4.2)) else ((rv_ri (rv_EV 109 [.ref p, .int (4 + n1), .int n2] q3.2)).bind fun q5 => some (some (.int q5.1), q5.2)))))) := by
  have e : rv_EV 117 [.ref p, .int n1, .int n2] w = rv_GO rc_X5_warm 0 [some (.ref p), some (.int n1), some (.int n2)] [] w := by
    show cond ((rv_obj w p 4).isSome && true) _ _ = _
    rw [hp]
    rfl
  rw [e, ← rv_blk_eq [] 18]
  rfl
set_option maxRecDepth 100000 in
set_option maxHeartbeats 4000000 in
theorem ev_X5_placeOf (n1 : Int32) (n2 : Int32) (w : rv_W) : rv_EV 118 [.int n1, .int n2] w = some (some (.int ((14 + (4 * n1)) + n2)), w) := by
  have e : rv_EV 118 [.int n1, .int n2] w = rv_GO rc_X5_placeOf 0 [some (.int n1), some (.int n2)] [] w := by
    rfl
  rw [e, ← rv_blk_eq [] 9]
  rfl
set_option maxRecDepth 100000 in
set_option maxHeartbeats 4000000 in
theorem ev_X5_scent (p : Nat) (n1 : Int32) (n2 : Int32) (n3 : Int32) (w : rv_W) (hp : (rv_obj w p 4).isSome = true) : rv_EV 119 [.ref p, .int n1, .int n2, .int n3] w = ((rv_ri (rv_EV 111 [.int n1] w)).bind fun q1 => (bif rv_cnd .eq q1.1 0 then ((rv_ri (rv_EV 108 [.ref p, .int (-1000001)] q1.2)).bind fun q2 => some (some (.int q2.1), q2.2)) else ((rv_ri (rv_EV 112 [.int n2] q1.2)).bind fun q3 => (bif rv_cnd .eq q3.1 0 then ((rv_ri (rv_EV 108 [.ref p, .int (-1000001)] q3.2)).bind fun q4 => some (some (.int q4.1), q4.2)) else ((rv_ri (rv_EV 107 [.long (Int32.toInt64 n3), .long (Int32.toInt64 0), .long (Int32.toInt64 9999)] q3.2)).bind fun q5 => (bif rv_cnd .eq q5.1 0 then ((rv_ri (rv_EV 108 [.ref p, .int (-1000001)] q5.2)).bind fun q6 => some (some (.int q6.1), q6.2)) else ((rv_ri (rv_EV 118 [.int n1, .int n2] q5.2)).bind fun q7 => ((rv_ri (rv_EV 109 [.ref p, .int q7.1, .int n3] q7.2)).bind fun q8 => some (some (.int q8.1), q8.2))))))))) := by
  have e : rv_EV 119 [.ref p, .int n1, .int n2, .int n3] w = rv_GO rc_X5_scent 0 [some (.ref p), some (.int n1), some (.int n2), some (.int n3)] [] w := by
    show cond ((rv_obj w p 4).isSome && true) _ _ = _
    rw [hp]
    rfl
  rw [e, ← rv_blk_eq [] 21]
  rfl
set_option maxRecDepth 100000 in
set_option maxHeartbeats 4000000 in
theorem ev_X5_allIn (p : Nat) (n1 : Int32) (w : rv_W) (hp : (rv_obj w p 4).isSome = true) : rv_EV 120 [.ref p, .int n1] w = rv_GO rc_X5_allIn 4 [some (.ref p), some (.int n1), some (.int 0), some (.int 0)] [] w := by
  have e : rv_EV 120 [.ref p, .int n1] w = rv_GO rc_X5_allIn 0 [some (.ref p), some (.int n1), none, none] [] w := by
    show cond ((rv_obj w p 4).isSome && true) _ _ = _
    rw [hp]
    rfl
  rw [e, ← rv_blk_eq [4] 6]
  rfl
set_option maxRecDepth 100000 in
set_option maxHeartbeats 4000000 in
theorem bk_X5_allIn_4 (v0 : Nat) (v1 : Int32) (v2 : Int32) (v3 : Int32) (w : rv_W) : rv_GO rc_X5_allIn 4 [some (.ref v0), some (.int v1), some (.int v2), some (.int v3)] [] w = (bif rv_cnd .ge v3 4 then some (some (.int v2), w) else ((rv_ldFR w v0 4 0).bind fun a1 => ((rv_ri (rv_EV 118 [.int v1, .int v3] w)).bind fun q2 => ((rv_ldI q2.2 a1 q2.1).bind fun x3 => rv_GO rc_X5_allIn 4 [some (.ref v0), some (.int v1), some (.int (v2 + x3)), some (.int (v3 + 1))] [] q2.2)))) := by
  rw [← rv_blk_eq [4] 16]
  rfl
set_option maxRecDepth 100000 in
set_option maxHeartbeats 4000000 in
theorem ev_X5_there (p : Nat) (n1 : Int32) (w : rv_W) (hp : (rv_obj w p 4).isSome = true) : rv_EV 121 [.ref p, .int n1] w = rv_GO rc_X5_there 4 [some (.ref p), some (.int n1), some (.int 0), some (.int 0)] [] w := by
  have e : rv_EV 121 [.ref p, .int n1] w = rv_GO rc_X5_there 0 [some (.ref p), some (.int n1), none, none] [] w := by
    show cond ((rv_obj w p 4).isSome && true) _ _ = _
    rw [hp]
    rfl
  rw [e, ← rv_blk_eq [4] 6]
  rfl
set_option maxRecDepth 100000 in
set_option maxHeartbeats 4000000 in
theorem bk_X5_there_4 (v0 : Nat) (v1 : Int32) (v2 : Int32) (v3 : Int32) (w : rv_W) : rv_GO rc_X5_there 4 [some (.ref v0), some (.int v1), some (.int v2), some (.int v3)] [] w = ((rv_ldFR w v0 4 0).bind fun a1 => ((rv_ldI w a1 0).bind fun x2 => (bif rv_cnd .ge v3 x2 then some (some (.int v2), w) else ((rv_ri (rv_EV 114 [.ref v0, .int v3, .int 1] w)).bind fun q3 => (bif rv_cnd .ne q3.1 v1 then rv_GO rc_X5_there 4 [some (.ref v0), some (.int v1), some (.int (v2 ||| 0)), some (.int (v3 + 1))] [] q3.2 else rv_GO rc_X5_there 4 [some (.ref v0), some (.int v1), some (.int (v2 ||| (1 <<< (v3 &&& 31)))), some (.int (v3 + 1))] [] q3.2))))) := by
  rw [← rv_blk_eq [4] 23]
  rfl
set_option maxRecDepth 100000 in
set_option maxHeartbeats 4000000 in
theorem ev_X5_tub (p : Nat) (n1 : Int32) (n2 : Int32) (w : rv_W) (hp : (rv_obj w p 4).isSome = true) : rv_EV 122 [.ref p, .int n1, .int n2] w = ((rv_ri (rv_EV 111 [.int n1] w)).bind fun q1 => (bif rv_cnd .eq q1.1 0 then ((rv_ri (rv_EV 108 [.ref p, .int (-1000001)] q1.2)).bind fun q2 => some (some (.int q2.1), q2.2)) else ((rv_ri (rv_EV 107 [.long (Int32.toInt64 n2), .long (Int32.toInt64 0), .long (Int32.toInt64 6)] q1.2)).bind fun q3 => (bif rv_cnd .ne q3.1 0 then (bif rv_cnd .ge n2 4 then (bif rv_cnd .ne n2 4 then (bif rv_cnd .ne n2 5 then ((rv_ri (rv_EV 120 [.ref p, .int n1] q3.2)).bind fun q4 => some (some (.int q4.1), q4.2)) else ((rv_ri (rv_EV 121 [.ref p, .int n1] q3.2)).bind fun q5 => some (some (.int q5.1), q5.2))) else ((rv_ldFR q3.2 p 4 0).bind fun a6 => ((rv_ldI q3.2 a6 (4 + n1)).bind fun x7 => some (some (.int x7), q3.2)))) else ((rv_ldFR q3.2 p 4 0).bind fun a8 => ((rv_ri (rv_EV 118 [.int n1, .int n2] q3.2)).bind fun q9 => ((rv_ldI q9.2 a8 q9.1).bind fun x10 => some (some (.int x10), q9.2))))) else ((rv_ri (rv_EV 108 [.ref p, .int (-1000001)] q3.2)).bind fun q11 => some (some (.int q11.1), q11.2)))))) := by
  have e : rv_EV 122 [.ref p, .int n1, .int n2] w = rv_GO rc_X5_tub 0 [some (.ref p), some (.int n1), some (.int n2)] [] w := by
    show cond ((rv_obj w p 4).isSome && true) _ _ = _
    rw [hp]
    rfl
  rw [e, ← rv_blk_eq [] 24]
  rfl
set_option maxRecDepth 100000 in
set_option maxHeartbeats 4000000 in
theorem ev_X5_fresh (p : Nat) (n1 : Int32) (w : rv_W) (hp : (rv_obj w p 4).isSome = true) : rv_EV 123 [.ref p, .int n1] w = ((rv_ri (rv_EV 107 [.long (Int32.toInt64 n1), .long (Int32.toInt64 0), .long (Int32.toInt64 99)] w)).bind fun q1 => (bif rv_cnd .eq q1.1 0 then ((rv_ri (rv_EV 108 [.ref p, .int (-1000001)] q1.2)).bind fun q2 => some (some (.int q2.1), q2.2)) else ((rv_ri (rv_EV 109 [.ref p, .int 2, .int n1] q1.2)).bind fun q3 => some (some (.int q3.1), q3.2)))) := by
  have e : rv_EV 123 [.ref p, .int n1] w = rv_GO rc_X5_fresh 0 [some (.ref p), some (.int n1)] [] w := by
    show cond ((rv_obj w p 4).isSome && true) _ _ = _
    rw [hp]
    rfl
  rw [e, ← rv_blk_eq [] 13]
  rfl
set_option maxRecDepth 100000 in
set_option maxHeartbeats 4000000 in
theorem ev_X5_pulls (p : Nat) (n1 : Int32) (w : rv_W) (hp : (rv_obj w p 4).isSome = true) : rv_EV 124 [.ref p, .int n1] w = ((rv_ri (rv_EV 120 [.ref p, .int n1] w)).bind fun q1 => ((rv_ldFR q1.2 p 4 0).bind fun a2 => ((rv_stI q1.2 a2 (4 + n1) 0).bind fun w3 => rv_GO rc_X5_pulls 17 [some (.ref p), some (.int n1), some (.int q1.1), some (.int 0)] [] w3))) := by
  have e : rv_EV 124 [.ref p, .int n1] w = rv_GO rc_X5_pulls 0 [some (.ref p), some (.int n1), none, none] [] w := by
    show cond ((rv_obj w p 4).isSome && true) _ _ = _
    rw [hp]
    rfl
  rw [e, ← rv_blk_eq [17] 15]
  rfl
set_option maxRecDepth 100000 in
set_option maxHeartbeats 4000000 in
theorem bk_X5_pulls_17 (v0 : Nat) (v1 : Int32) (v2 : Int32) (v3 : Int32) (w : rv_W) : rv_GO rc_X5_pulls 17 [some (.ref v0), some (.int v1), some (.int v2), some (.int v3)] [] w = (bif rv_cnd .ge v3 4 then some (some (.int v2), w) else ((rv_ldFR w v0 4 0).bind fun a1 => ((rv_ri (rv_EV 118 [.int v1, .int v3] w)).bind fun q2 => ((rv_stI q2.2 a1 q2.1 0).bind fun w3 => rv_GO rc_X5_pulls 17 [some (.ref v0), some (.int v1), some (.int v2), some (.int (v3 + 1))] [] w3)))) := by
  rw [← rv_blk_eq [17] 14]
  rfl
set_option maxRecDepth 100000 in
set_option maxHeartbeats 4000000 in
theorem ev_X5_plug (p : Nat) (n1 : Int32) (w : rv_W) (hp : (rv_obj w p 4).isSome = true) : rv_EV 125 [.ref p, .int n1] w = ((rv_ri (rv_EV 111 [.int n1] w)).bind fun q1 => (bif rv_cnd .eq q1.1 0 then ((rv_ri (rv_EV 108 [.ref p, .int (-1000001)] q1.2)).bind fun q2 => some (some (.int q2.1), q2.2)) else ((rv_ri (rv_EV 124 [.ref p, .int n1] q1.2)).bind fun q3 => some (some (.int q3.1), q3.2)))) := by
  have e : rv_EV 125 [.ref p, .int n1] w = rv_GO rc_X5_plug 0 [some (.ref p), some (.int n1)] [] w := by
    show cond ((rv_obj w p 4).isSome && true) _ _ = _
    rw [hp]
    rfl
  rw [e, ← rv_blk_eq [] 9]
  rfl
set_option maxRecDepth 100000 in
set_option maxHeartbeats 4000000 in
theorem ev_X5_comes (p : Nat) (n1 : Int32) (n2 : Int32) (n3 : Int32) (n4 : Int32) (w : rv_W) (hp : (rv_obj w p 4).isSome = true) : rv_EV 126 [.ref p, .int n1, .int n2, .int n3, .int n4] w = ((rv_ldFR w p 4 0).bind fun a1 => ((rv_ldI w a1 0).bind fun x2 => ((rv_ldFR w p 4 0).bind fun a3 => ((rv_stI w a3 (54 + (4 * x2)) n1).bind fun w4 => ((rv_ldFR w4 p 4 0).bind fun a5 => ((rv_stI w4 a5 ((54 + (4 * x2)) + 1) n2).bind fun w6 => ((rv_ldFR w6 p 4 0).bind fun a7 => ((rv_stI w6 a7 ((54 + (4 * x2)) + 2) n3).bind fun w8 => ((rv_ldFR w8 p 4 0).bind fun a9 => ((rv_stI w8 a9 ((54 + (4 * x2)) + 3) n4).bind fun w10 => ((rv_ldFR w10 p 4 0).bind fun a11 => ((rv_ldI w10 a11 0).bind fun x12 => ((rv_stI w10 a11 0 (x12 + 1)).bind fun w13 => some (none, w13)))))))))))))) := by
  have e : rv_EV 126 [.ref p, .int n1, .int n2, .int n3, .int n4] w = rv_GO rc_X5_comes 0 [some (.ref p), some (.int n1), some (.int n2), some (.int n3), some (.int n4), none] [] w := by
    show cond ((rv_obj w p 4).isSome && true) _ _ = _
    rw [hp]
    rfl
  rw [e, ← rv_blk_eq [] 45]
  rfl
set_option maxRecDepth 100000 in
set_option maxHeartbeats 4000000 in
theorem ev_X5_bather (p : Nat) (n1 : Int32) (n2 : Int32) (w : rv_W) (hp : (rv_obj w p 4).isSome = true) : rv_EV 127 [.ref p, .int n1, .int n2] w = ((rv_ri (rv_EV 107 [.long (Int32.toInt64 n1), .long (Int32.toInt64 0), .long (Int32.toInt64 6)] w)).bind fun q1 => (bif rv_cnd .eq q1.1 0 then ((rv_ri (rv_EV 108 [.ref p, .int (-1000001)] q1.2)).bind fun q2 => some (some (.int q2.1), q2.2)) else ((rv_ri (rv_EV 111 [.int n2] q1.2)).bind fun q3 => (bif rv_cnd .ne q3.1 0 then ((rv_ldFR q3.2 p 4 0).bind fun a4 => ((rv_ldI q3.2 a4 0).bind fun x5 => (bif rv_cnd .ne x5 8 then ((rv_rv (rv_EV 126 [.ref p, .int n1, .int n2, .int 0, .int 0] q3.2)).bind fun q6 => ((rv_ldFR q6 p 4 0).bind fun a7 => ((rv_ldI q6 a7 0).bind fun x8 => some (some (.int (x8 - 1)), q6)))) else ((rv_ri (rv_EV 108 [.ref p, .int (-1000002)] q3.2)).bind fun q9 => some (some (.int q9.1), q9.2))))) else ((rv_ri (rv_EV 108 [.ref p, .int (-1000001)] q3.2)).bind fun q10 => some (some (.int q10.1), q10.2)))))) := by
  have e : rv_EV 127 [.ref p, .int n1, .int n2] w = rv_GO rc_X5_bather 0 [some (.ref p), some (.int n1), some (.int n2)] [] w := by
    show cond ((rv_obj w p 4).isSome && true) _ _ = _
    rw [hp]
    rfl
  rw [e, ← rv_blk_eq [] 29]
  rfl
set_option maxRecDepth 100000 in
set_option maxHeartbeats 4000000 in
theorem ev_X5_adds (p : Nat) (n1 : Int32) (w : rv_W) (hp : (rv_obj w p 4).isSome = true) : rv_EV 128 [.ref p, .int n1] w = ((rv_ri (rv_EV 114 [.ref p, .int n1, .int 0] w)).bind fun q1 => (bif rv_eq q1.1 (Int32.ofInt 1) then some (some (.int 128), q1.2) else (bif rv_eq q1.1 (Int32.ofInt 2) then some (some (.int 32), q1.2) else (bif rv_eq q1.1 (Int32.ofInt 3) then some (some (.int 8), q1.2) else (bif rv_eq q1.1 (Int32.ofInt 4) then ((rv_ri (rv_EV 114 [.ref p, .int n1, .int 3] q1.2)).bind fun q10 => ((rv_ri (rv_EV 116 [.int q10.1] q10.2)).bind fun q11 => some (some (.int (8 + q11.1)), q11.2))) else (bif rv_eq q1.1 (Int32.ofInt 5) then ((rv_ldFR q1.2 p 4 0).bind fun a5 => ((rv_ri (rv_EV 114 [.ref p, .int n1, .int 1] q1.2)).bind fun q6 => ((rv_ri (rv_EV 114 [.ref p, .int n1, .int 2] q6.2)).bind fun q7 => ((rv_ri (rv_EV 118 [.int q6.1, .int q7.1] q7.2)).bind fun q8 => ((rv_ldI q8.2 a5 q8.1).bind fun x9 => (bif rv_cnd .ne x9 0 then some (some (.int 0), q8.2) else some (some (.int 64), q8.2))))))) else (bif rv_eq q1.1 (Int32.ofInt 6) then ((rv_ldFR q1.2 p 4 0).bind fun a2 => ((rv_ri (rv_EV 114 [.ref p, .int n1, .int 1] q1.2)).bind fun q3 => ((rv_ldI q3.2 a2 (4 + q3.1)).bind fun x4 => some (some (.int (128 + x4)), q3.2)))) else some (some (.int 64), q1.2)))))))) := by
  have e : rv_EV 128 [.ref p, .int n1] w = rv_GO rc_X5_adds 0 [some (.ref p), some (.int n1)] [] w := by
    show cond ((rv_obj w p 4).isSome && true) _ _ = _
    rw [hp]
    rfl
  rw [e, ← rv_blk_eq [] 22]
  rfl
set_option maxRecDepth 100000 in
set_option maxHeartbeats 4000000 in
theorem ev_X5_cools (p : Nat) (n1 : Int32) (w : rv_W) (hp : (rv_obj w p 4).isSome = true) : rv_EV 129 [.ref p, .int n1] w = ((rv_ri (rv_EV 114 [.ref p, .int n1, .int 0] w)).bind fun q1 => (bif rv_eq q1.1 (Int32.ofInt 1) then some (some (.int 8), q1.2) else (bif rv_eq q1.1 (Int32.ofInt 2) then some (some (.int 3), q1.2) else (bif rv_eq q1.1 (Int32.ofInt 3) then some (some (.int 3), q1.2) else (bif rv_eq q1.1 (Int32.ofInt 4) then some (some (.int 3), q1.2) else (bif rv_eq q1.1 (Int32.ofInt 5) then some (some (.int 10), q1.2) else (bif rv_eq q1.1 (Int32.ofInt 6) then some (some (.int 16), q1.2) else some (some (.int 5), q1.2)))))))) := by
  have e : rv_EV 129 [.ref p, .int n1] w = rv_GO rc_X5_cools 0 [some (.ref p), some (.int n1)] [] w := by
    show cond ((rv_obj w p 4).isSome && true) _ _ = _
    rw [hp]
    rfl
  rw [e, ← rv_blk_eq [] 8]
  rfl
set_option maxRecDepth 100000 in
set_option maxHeartbeats 4000000 in
theorem ev_X5_nose (p : Nat) (n1 : Int32) (w : rv_W) (hp : (rv_obj w p 4).isSome = true) : rv_EV 130 [.ref p, .int n1] w = ((rv_ri (rv_EV 114 [.ref p, .int n1, .int 0] w)).bind fun q1 => (bif rv_eq q1.1 (Int32.ofInt 2) then some (some (.int 50), q1.2) else (bif rv_eq q1.1 (Int32.ofInt 3) then some (some (.int 30), q1.2) else (bif rv_eq q1.1 (Int32.ofInt 4) then some (some (.int 10), q1.2) else (bif rv_eq q1.1 (Int32.ofInt 5) then some (some (.int 400), q1.2) else (bif rv_eq q1.1 (Int32.ofInt 6) then some (some (.int 300), q1.2) else some (some (.int 100), q1.2))))))) := by
  have e : rv_EV 130 [.ref p, .int n1] w = rv_GO rc_X5_nose 0 [some (.ref p), some (.int n1)] [] w := by
    show cond ((rv_obj w p 4).isSome && true) _ _ = _
    rw [hp]
    rfl
  rw [e, ← rv_blk_eq [] 8]
  rfl
set_option maxRecDepth 100000 in
set_option maxHeartbeats 4000000 in
theorem ev_X5_smells (p : Nat) (n1 : Int32) (w : rv_W) (hp : (rv_obj w p 4).isSome = true) : rv_EV 131 [.ref p, .int n1] w = ((rv_ri (rv_EV 114 [.ref p, .int n1, .int 1] w)).bind fun q1 => ((rv_ri (rv_EV 120 [.ref p, .int q1.1] q1.2)).bind fun q2 => rv_GO rc_X5_smells 19 [some (.ref p), some (.int n1), some (.int q1.1), some (.int q2.1), some (.int 0), some (.int 0), none] [] q2.2)) := by
  have e : rv_EV 131 [.ref p, .int n1] w = rv_GO rc_X5_smells 0 [some (.ref p), some (.int n1), none, none, none, none, none] [] w := by
    show cond ((rv_obj w p 4).isSome && true) _ _ = _
    rw [hp]
    rfl
  rw [e, ← rv_blk_eq [19] 15]
  rfl
set_option maxRecDepth 100000 in
set_option maxHeartbeats 4000000 in
theorem bk_X5_smells_19 (v0 : Nat) (v1 : Int32) (v2 : Int32) (v3 : Int32) (v4 : Int32) (v5 : Int32) (w : rv_W) : rv_GO rc_X5_smells 19 [some (.ref v0), some (.int v1), some (.int v2), some (.int v3), some (.int v4), some (.int v5), none] [] w = (bif rv_cnd .ge v5 4 then some (some (.int v4), w) else ((rv_ldFR w v0 4 0).bind fun a1 => ((rv_ri (rv_EV 118 [.int v2, .int v5] w)).bind fun q2 => ((rv_ldI q2.2 a1 q2.1).bind fun x3 => ((rv_ri (rv_EV 114 [.ref v0, .int v1, .int 2] q2.2)).bind fun q4 => (bif rv_cnd .eq v5 q4.1 then rv_GO rc_X5_smells 19 [some (.ref v0), some (.int v1), some (.int v2), some (.int v3), some (.int (v4 ||| 0)), some (.int (v5 + 1)), none] [] q4.2 else ((rv_ri (rv_EV 130 [.ref v0, .int v1] q4.2)).bind fun q5 => (bif rv_eq 8 0 then none else (bif rv_cnd .lt x3 (q5.1 + ((v3 - x3) / 8)) then rv_GO rc_X5_smells 19 [some (.ref v0), some (.int v1), some (.int v2), some (.int v3), some (.int (v4 ||| 0)), some (.int (v5 + 1)), none] [] q5.2 else rv_GO rc_X5_smells 19 [some (.ref v0), some (.int v1), some (.int v2), some (.int v3), some (.int (v4 ||| (1 <<< (v5 &&& 31)))), some (.int (v5 + 1)), none] [] q5.2))))))))) := by
  rw [← rv_blk_eq [19] 38]
  rfl
set_option maxRecDepth 100000 in
set_option maxHeartbeats 4000000 in
theorem ev_X5_of (p : Nat) (n1 : Int32) (n2 : Int32) (w : rv_W) (hp : (rv_obj w p 4).isSome = true) : rv_EV 132 [.ref p, .int n1, .int n2] w = ((rv_ri (rv_EV 113 [.ref p, .int n1] w)).bind fun q1 => (bif rv_cnd .eq q1.1 0 then ((rv_ri (rv_EV 108 [.ref p, .int (-1000001)] q1.2)).bind fun q2 => some (some (.int q2.1), q2.2)) else ((rv_ri (rv_EV 107 [.long (Int32.toInt64 n2), .long (Int32.toInt64 0), .long (Int32.toInt64 7)] q1.2)).bind fun q3 => (bif rv_cnd .ne q3.1 0 then (bif rv_eq n2 (Int32.ofInt 4) then ((rv_ri (rv_EV 128 [.ref p, .int n1] q3.2)).bind fun q8 => some (some (.int q8.1), q8.2)) else (bif rv_eq n2 (Int32.ofInt 5) then ((rv_ri (rv_EV 129 [.ref p, .int n1] q3.2)).bind fun q7 => some (some (.int q7.1), q7.2)) else (bif rv_eq n2 (Int32.ofInt 6) then ((rv_ri (rv_EV 130 [.ref p, .int n1] q3.2)).bind fun q6 => some (some (.int q6.1), q6.2)) else (bif rv_eq n2 (Int32.ofInt 7) then ((rv_ri (rv_EV 131 [.ref p, .int n1] q3.2)).bind fun q5 => some (some (.int q5.1), q5.2)) else ((rv_ri (rv_EV 114 [.ref p, .int n1, .int n2] q3.2)).bind fun q4 => some (some (.int q4.1), q4.2)))))) else ((rv_ri (rv_EV 108 [.ref p, .int (-1000001)] q3.2)).bind fun q9 => some (some (.int q9.1), q9.2)))))) := by
  have e : rv_EV 132 [.ref p, .int n1, .int n2] w = rv_GO rc_X5_of 0 [some (.ref p), some (.int n1), some (.int n2)] [] w := by
    show cond ((rv_obj w p 4).isSome && true) _ _ = _
    rw [hp]
    rfl
  rw [e, ← rv_blk_eq [] 18]
  rfl
set_option maxRecDepth 100000 in
set_option maxHeartbeats 4000000 in
theorem ev_X5_greatestOf (n1 : Int32) (w : rv_W) : rv_EV 133 [.int n1] w = (bif rv_cnd .ne n1 0 then (bif rv_cnd .ne n1 1 then (bif rv_cnd .ne n1 2 then some (some (.int 15), w) else some (some (.int 3), w)) else some (some (.int 9), w)) else some (some (.int 6), w)) := by
  have e : rv_EV 133 [.int n1] w = rv_GO rc_X5_greatestOf 0 [some (.int n1)] [] w := by
    rfl
  rw [e, ← rv_blk_eq [] 12]
  rfl
set_option maxRecDepth 100000 in
set_option maxHeartbeats 4000000 in
theorem ev_X5_change (p : Nat) (n1 : Int32) (n2 : Int32) (n3 : Int32) (w : rv_W) (hp : (rv_obj w p 4).isSome = true) : rv_EV 134 [.ref p, .int n1, .int n2, .int n3] w = ((rv_ri (rv_EV 113 [.ref p, .int n1] w)).bind fun q1 => (bif rv_cnd .eq q1.1 0 then rv_GO rc_X5_change 39 [some (.ref p), some (.int n1), some (.int n2), some (.int n3), none] [.int 0] q1.2 else ((rv_ri (rv_EV 107 [.long (Int32.toInt64 n2), .long (Int32.toInt64 0), .long (Int32.toInt64 3)] q1.2)).bind fun q2 => (bif rv_cnd .eq q2.1 0 then rv_GO rc_X5_change 39 [some (.ref p), some (.int n1), some (.int n2), some (.int n3), none] [.int 0] q2.2 else ((rv_ri (rv_EV 133 [.int n2] q2.2)).bind fun q3 => ((rv_ri (rv_EV 107 [.long (Int32.toInt64 n3), .long (Int32.toInt64 0), .long (Int32.toInt64 q3.1)] q3.2)).bind fun q4 => (bif rv_cnd .eq q4.1 0 then rv_GO rc_X5_change 39 [some (.ref p), some (.int n1), some (.int n2), some (.int n3), none] [.int 0] q4.2 else rv_GO rc_X5_change 39 [some (.ref p), some (.int n1), some (.int n2), some (.int n3), none] [.int 1] q4.2))))))) := by
  have e : rv_EV 134 [.ref p, .int n1, .int n2, .int n3] w = rv_GO rc_X5_change 0 [some (.ref p), some (.int n1), some (.int n2), some (.int n3), none] [] w := by
    show cond ((rv_obj w p 4).isSome && true) _ _ = _
    rw [hp]
    rfl
  rw [e, ← rv_blk_eq [39] 22]
  rfl
set_option maxRecDepth 100000 in
set_option maxHeartbeats 4000000 in
theorem bk_X5_change_39 (v0 : Nat) (v1 : Int32) (v2 : Int32) (v3 : Int32) (s0 : Int32) (w : rv_W) : rv_GO rc_X5_change 39 [some (.ref v0), some (.int v1), some (.int v2), some (.int v3), none] [.int s0] w = (bif rv_cnd .eq s0 0 then ((rv_ri (rv_EV 108 [.ref v0, .int (-1000001)] w)).bind fun q1 => some (some (.int q1.1), q1.2)) else ((rv_ri (rv_EV 109 [.ref v0, .int ((54 + (4 * v1)) + v2), .int v3] w)).bind fun q2 => some (some (.int q2.1), q2.2))) := by
  rw [← rv_blk_eq [39] 16]
  rfl
set_option maxRecDepth 100000 in
set_option maxHeartbeats 4000000 in
theorem ev_X5_swaps (p : Nat) (n1 : Int32) (n2 : Int32) (w : rv_W) (hp : (rv_obj w p 4).isSome = true) : rv_EV 135 [.ref p, .int n1, .int n2] w = ((rv_ri (rv_EV 114 [.ref p, .int n1, .int 1] w)).bind fun q1 => ((rv_ldFR q1.2 p 4 0).bind fun a2 => ((rv_ri (rv_EV 114 [.ref p, .int n2, .int 1] q1.2)).bind fun q3 => ((rv_stI q3.2 a2 ((54 + (4 * n1)) + 1) q3.1).bind fun w4 => ((rv_ldFR w4 p 4 0).bind fun a5 => ((rv_stI w4 a5 ((54 + (4 * n2)) + 1) q1.1).bind fun w6 => ((rv_ri (rv_EV 114 [.ref p, .int n1, .int 1] w6)).bind fun q7 => (bif rv_cnd .ne q7.1 q1.1 then some (some (.int 1), q7.2) else some (some (.int 0), q7.2))))))))) := by
  have e : rv_EV 135 [.ref p, .int n1, .int n2] w = rv_GO rc_X5_swaps 0 [some (.ref p), some (.int n1), some (.int n2), none] [] w := by
    show cond ((rv_obj w p 4).isSome && true) _ _ = _
    rw [hp]
    rfl
  rw [e, ← rv_blk_eq [] 40]
  rfl
set_option maxRecDepth 100000 in
set_option maxHeartbeats 4000000 in
theorem ev_X5_swap (p : Nat) (n1 : Int32) (n2 : Int32) (w : rv_W) (hp : (rv_obj w p 4).isSome = true) : rv_EV 136 [.ref p, .int n1, .int n2] w = ((rv_ri (rv_EV 113 [.ref p, .int n1] w)).bind fun q1 => (bif rv_cnd .eq q1.1 0 then ((rv_ri (rv_EV 108 [.ref p, .int (-1000001)] q1.2)).bind fun q2 => some (some (.int q2.1), q2.2)) else ((rv_ri (rv_EV 113 [.ref p, .int n2] q1.2)).bind fun q3 => (bif rv_cnd .eq q3.1 0 then ((rv_ri (rv_EV 108 [.ref p, .int (-1000001)] q3.2)).bind fun q4 => some (some (.int q4.1), q4.2)) else (bif rv_cnd .eq n1 n2 then ((rv_ri (rv_EV 108 [.ref p, .int (-1000001)] q3.2)).bind fun q5 => some (some (.int q5.1), q5.2)) else ((rv_ri (rv_EV 135 [.ref p, .int n1, .int n2] q3.2)).bind fun q6 => some (some (.int q6.1), q6.2))))))) := by
  have e : rv_EV 136 [.ref p, .int n1, .int n2] w = rv_GO rc_X5_swap 0 [some (.ref p), some (.int n1), some (.int n2)] [] w := by
    show cond ((rv_obj w p 4).isSome && true) _ _ = _
    rw [hp]
    rfl
  rw [e, ← rv_blk_eq [] 18]
  rfl
set_option maxRecDepth 100000 in
set_option maxHeartbeats 4000000 in
theorem ev_X5_flows (p : Nat) (w : rv_W) (hp : (rv_obj w p 4).isSome = true) : rv_EV 137 [.ref p] w = rv_GO rc_X5_flows 3 [some (.ref p), some (.int 9), none, none] [] w := by
  have e : rv_EV 137 [.ref p] w = rv_GO rc_X5_flows 0 [some (.ref p), none, none, none] [] w := by
    show cond ((rv_obj w p 4).isSome && true) _ _ = _
    rw [hp]
    rfl
  rw [e, ← rv_blk_eq [3, 39, 96] 4]
  rfl
set_option maxRecDepth 100000 in
set_option maxHeartbeats 4000000 in
theorem bk_X5_flows_3 (v0 : Nat) (v1 : Int32) (w : rv_W) : rv_GO rc_X5_flows 3 [some (.ref v0), some (.int v1), none, none] [] w = (bif rv_cnd .le v1 0 then ((rv_ldFR w v0 4 0).bind fun a1 => ((rv_ldFR w v0 4 0).bind fun a2 => ((rv_ldI w a2 2).bind fun x3 => ((rv_stI w a1 4 x3).bind fun w4 => rv_GO rc_X5_flows 96 [some (.ref v0), some (.int 0), none, none] [] w4)))) else ((rv_ldFR w v0 4 0).bind fun a5 => ((rv_ldI w a5 ((4 + v1) - 1)).bind fun x6 => ((rv_ldFR w v0 4 0).bind fun a7 => (bif rv_cnd .ge (x6 - 4) 0 then ((rv_stI w a7 (4 + v1) (x6 - 4)).bind fun w8 => rv_GO rc_X5_flows 39 [some (.ref v0), some (.int v1), none, some (.int 0)] [] w8) else ((rv_stI w a7 (4 + v1) 0).bind fun w9 => rv_GO rc_X5_flows 39 [some (.ref v0), some (.int v1), none, some (.int 0)] [] w9)))))) := by
  rw [← rv_blk_eq [3, 39, 96] 27]
  rfl
set_option maxRecDepth 100000 in
set_option maxHeartbeats 4000000 in
theorem bk_X5_flows_39 (v0 : Nat) (v1 : Int32) (v3 : Int32) (w : rv_W) : rv_GO rc_X5_flows 39 [some (.ref v0), some (.int v1), none, some (.int v3)] [] w = (bif rv_cnd .ge v3 4 then rv_GO rc_X5_flows 3 [some (.ref v0), some (.int (v1 + (-1))), none, none] [] w else ((rv_ldFR w v0 4 0).bind fun a1 => ((rv_ri (rv_EV 118 [.int v1, .int v3] w)).bind fun q2 => ((rv_ldFR q2.2 v0 4 0).bind fun a3 => ((rv_ri (rv_EV 118 [.int (v1 - 1), .int v3] q2.2)).bind fun q4 => ((rv_ldI q4.2 a3 q4.1).bind fun x5 => (bif rv_eq 4 0 then none else ((rv_stI q4.2 a1 q2.1 ((x5 * 3) / 4)).bind fun w6 => rv_GO rc_X5_flows 39 [some (.ref v0), some (.int v1), none, some (.int (v3 + 1))] [] w6)))))))) := by
  rw [← rv_blk_eq [3, 39, 96] 25]
  rfl
set_option maxRecDepth 100000 in
set_option maxHeartbeats 4000000 in
theorem bk_X5_flows_96 (v0 : Nat) (v1 : Int32) (w : rv_W) : rv_GO rc_X5_flows 96 [some (.ref v0), some (.int v1), none, none] [] w = (bif rv_cnd .ge v1 4 then some (none, w) else ((rv_ldFR w v0 4 0).bind fun a1 => ((rv_ri (rv_EV 118 [.int 0, .int v1] w)).bind fun q2 => ((rv_stI q2.2 a1 q2.1 0).bind fun w3 => rv_GO rc_X5_flows 96 [some (.ref v0), some (.int (v1 + 1)), none, none] [] w3)))) := by
  rw [← rv_blk_eq [3, 39, 96] 14]
  rfl
set_option maxRecDepth 100000 in
set_option maxHeartbeats 4000000 in
theorem ev_X5_hourBut (p : Nat) (n1 : Int32) (w : rv_W) (hp : (rv_obj w p 4).isSome = true) : rv_EV 138 [.ref p, .int n1] w = ((rv_rv (rv_EV 137 [.ref p] w)).bind fun q1 => rv_GO rc_X5_hourBut 6 [some (.ref p), some (.int n1), some (.int 0), none, none, none] [] q1) := by
  have e : rv_EV 138 [.ref p, .int n1] w = rv_GO rc_X5_hourBut 0 [some (.ref p), some (.int n1), none, none, none, none] [] w := by
    show cond ((rv_obj w p 4).isSome && true) _ _ = _
    rw [hp]
    rfl
  rw [e, ← rv_blk_eq [6, 68, 135] 6]
  rfl
set_option maxRecDepth 100000 in
set_option maxHeartbeats 4000000 in
theorem bk_X5_hourBut_6 (v0 : Nat) (v1 : Int32) (v2 : Int32) (w : rv_W) : rv_GO rc_X5_hourBut 6 [some (.ref v0), some (.int v1), some (.int v2), none, none, none] [] w = ((rv_ldFR w v0 4 0).bind fun a1 => ((rv_ldI w a1 0).bind fun x2 => (bif rv_cnd .ge v2 x2 then rv_GO rc_X5_hourBut 135 [some (.ref v0), some (.int v1), some (.long (Int32.toInt64 0)), none, some (.int 0), none] [] w else (bif rv_cnd .ne ((v1 >>> (v2 &&& 31)) &&& 1) 0 then rv_GO rc_X5_hourBut 6 [some (.ref v0), some (.int v1), some (.int (v2 + 1)), none, none, none] [] w else ((rv_ri (rv_EV 114 [.ref v0, .int v2, .int 1] w)).bind fun q3 => ((rv_ldFR q3.2 v0 4 0).bind fun a4 => ((rv_ldFR q3.2 v0 4 0).bind fun a5 => ((rv_ldI q3.2 a5 (4 + q3.1)).bind fun x6 => ((rv_ri (rv_EV 129 [.ref v0, .int v2] q3.2)).bind fun q7 => (bif rv_cnd .ge x6 q7.1 then ((rv_ldFR q7.2 v0 4 0).bind fun a8 => ((rv_ldI q7.2 a8 (4 + q3.1)).bind fun x9 => ((rv_ri (rv_EV 129 [.ref v0, .int v2] q7.2)).bind fun q10 => rv_GO rc_X5_hourBut 68 [some (.ref v0), some (.int v1), some (.int v2), none, none, none] [.int (x9 - q10.1), .int (4 + q3.1), .ref a4] q10.2))) else rv_GO rc_X5_hourBut 68 [some (.ref v0), some (.int v1), some (.int v2), none, none, none] [.int 0, .int (4 + q3.1), .ref a4] q7.2)))))))))) := by
  rw [← rv_blk_eq [6, 68, 135] 40]
  rfl
set_option maxRecDepth 100000 in
set_option maxHeartbeats 4000000 in
theorem bk_X5_hourBut_68 (v0 : Nat) (v1 : Int32) (v2 : Int32) (s0 : Int32) (s1 : Int32) (s2 : Nat) (w : rv_W) : rv_GO rc_X5_hourBut 68 [some (.ref v0), some (.int v1), some (.int v2), none, none, none] [.int s0, .int s1, .ref s2] w = ((rv_stI w s2 s1 s0).bind fun w1 => ((rv_ri (rv_EV 114 [.ref v0, .int v2, .int 1] w1)).bind fun q2 => ((rv_ri (rv_EV 114 [.ref v0, .int v2, .int 2] q2.2)).bind fun q3 => ((rv_ri (rv_EV 118 [.int q2.1, .int q3.1] q3.2)).bind fun q4 => ((rv_ldFR q4.2 v0 4 0).bind fun a5 => ((rv_ldI q4.2 a5 q4.1).bind fun x6 => ((rv_ri (rv_EV 128 [.ref v0, .int v2] q4.2)).bind fun q7 => ((rv_ldFR q7.2 v0 4 0).bind fun a8 => (bif rv_cnd .le (x6 + q7.1) 9999 then ((rv_stI q7.2 a8 q4.1 (x6 + q7.1)).bind fun w9 => rv_GO rc_X5_hourBut 6 [some (.ref v0), some (.int v1), some (.int (v2 + 1)), none, none, none] [] w9) else ((rv_stI q7.2 a8 q4.1 9999).bind fun w10 => rv_GO rc_X5_hourBut 6 [some (.ref v0), some (.int v1), some (.int (v2 + 1)), none, none, none] [] w10)))))))))) := by
  rw [← rv_blk_eq [6, 68, 135] 33]
  rfl
set_option maxRecDepth 100000 in
set_option maxHeartbeats 4000000 in
theorem bk_X5_hourBut_135 (v0 : Nat) (v1 : Int32) (v2 : Int64) (v4 : Int32) (w : rv_W) : rv_GO rc_X5_hourBut 135 [some (.ref v0), some (.int v1), some (.long v2), none, some (.int v4), none] [] w = ((rv_ldFR w v0 4 0).bind fun a1 => ((rv_ldI w a1 0).bind fun x2 => (bif rv_cnd .ge v4 x2 then ((rv_ldFR w v0 4 0).bind fun a3 => ((rv_ldI w a3 1).bind fun x4 => ((rv_stI w a3 1 (x4 + 1)).bind fun w5 => some (some (.long v2), w5)))) else (bif rv_cnd .ne ((v1 >>> (v4 &&& 31)) &&& 1) 0 then rv_GO rc_X5_hourBut 135 [some (.ref v0), some (.int v1), some (.long v2), none, some (.int (v4 + 1)), none] [] w else ((rv_ri (rv_EV 131 [.ref v0, .int v4] w)).bind fun q6 => ((rv_ri (rv_EV 114 [.ref v0, .int v4, .int 3] q6.2)).bind fun q7 => ((rv_ldFR q7.2 v0 4 0).bind fun a8 => ((rv_ldI q7.2 a8 ((54 + (4 * v4)) + 3)).bind fun x9 => ((rv_stI q7.2 a8 ((54 + (4 * v4)) + 3) (x9 ||| (q6.1 &&& (q7.1 ^^^ (-1))))).bind fun w10 => rv_GO rc_X5_hourBut 135 [some (.ref v0), some (.int v1), some (.long (v2 ||| ((Int32.toInt64 (q6.1 &&& (q7.1 ^^^ (-1)))) <<< (Int32.toInt64 (4 * v4) &&& 63)))), none, some (.int (v4 + 1)), none] [] w10))))))))) := by
  rw [← rv_blk_eq [6, 68, 135] 50]
  rfl
set_option maxRecDepth 100000 in
set_option maxHeartbeats 4000000 in
theorem ev_X5_hours (p : Nat) (n1 : Int32) (w : rv_W) (hp : (rv_obj w p 4).isSome = true) : rv_EV 139 [.ref p, .int n1] w = rv_GO rc_X5_hours 2 [some (.ref p), some (.int n1), some (.int 0), none, none] [] w := by
  have e : rv_EV 139 [.ref p, .int n1] w = rv_GO rc_X5_hours 0 [some (.ref p), some (.int n1), none, none, none] [] w := by
    show cond ((rv_obj w p 4).isSome && true) _ _ = _
    rw [hp]
    rfl
  rw [e, ← rv_blk_eq [2] 4]
  rfl
set_option maxRecDepth 100000 in
set_option maxHeartbeats 4000000 in
theorem bk_X5_hours_2 (v0 : Nat) (v1 : Int32) (v2 : Int32) (w : rv_W) : rv_GO rc_X5_hours 2 [some (.ref v0), some (.int v1), some (.int v2), none, none] [] w = (bif rv_cnd .ge v2 v1 then some (none, w) else ((rv_rl (rv_EV 138 [.ref v0, .int 0] w)).bind fun q1 => rv_GO rc_X5_hours 2 [some (.ref v0), some (.int v1), some (.int (v2 + 1)), none, none] [] q1.2)) := by
  rw [← rv_blk_eq [2] 11]
  rfl
set_option maxRecDepth 100000 in
set_option maxHeartbeats 4000000 in
theorem ev_X5_go (p : Nat) (n1 : Int32) (w : rv_W) (hp : (rv_obj w p 4).isSome = true) : rv_EV 140 [.ref p, .int n1] w = ((rv_ri (rv_EV 107 [.long (Int32.toInt64 n1), .long (Int32.toInt64 1), .long (Int32.toInt64 40)] w)).bind fun q1 => (bif rv_cnd .ne q1.1 0 then ((rv_ldFR q1.2 p 4 0).bind fun a2 => ((rv_ldI q1.2 a2 1).bind fun x3 => (bif rv_cnd .le (x3 + n1) 99999 then ((rv_rv (rv_EV 139 [.ref p, .int n1] q1.2)).bind fun q4 => ((rv_ldFR q4 p 4 0).bind fun a5 => ((rv_ldI q4 a5 13).bind fun x6 => some (some (.int x6), q4)))) else ((rv_ri (rv_EV 108 [.ref p, .int (-1000005)] q1.2)).bind fun q7 => some (some (.int q7.1), q7.2))))) else ((rv_ri (rv_EV 108 [.ref p, .int (-1000001)] q1.2)).bind fun q8 => some (some (.int q8.1), q8.2)))) := by
  have e : rv_EV 140 [.ref p, .int n1] w = rv_GO rc_X5_go 0 [some (.ref p), some (.int n1)] [] w := by
    show cond ((rv_obj w p 4).isSome && true) _ _ = _
    rw [hp]
    rfl
  rw [e, ← rv_blk_eq [] 23]
  rfl
set_option maxRecDepth 100000 in
set_option maxHeartbeats 4000000 in
theorem ev_X5_sumOf (p : Nat) (n1 : Int32) (n2 : Int32) (w : rv_W) (hp : (rv_obj w p 4).isSome = true) : rv_EV 141 [.ref p, .int n1, .int n2] w = rv_GO rc_X5_sumOf 5 [some (.ref p), some (.int n1), some (.int n2), some (.int 0), some (.int 0)] [] w := by
  have e : rv_EV 141 [.ref p, .int n1, .int n2] w = rv_GO rc_X5_sumOf 0 [some (.ref p), some (.int n1), some (.int n2), none, none] [] w := by
    show cond ((rv_obj w p 4).isSome && true) _ _ = _
    rw [hp]
    rfl
  rw [e, ← rv_blk_eq [5] 6]
  rfl
set_option maxRecDepth 100000 in
set_option maxHeartbeats 4000000 in
theorem bk_X5_sumOf_5 (v0 : Nat) (v1 : Int32) (v2 : Int32) (v3 : Int32) (v4 : Int32) (w : rv_W) : rv_GO rc_X5_sumOf 5 [some (.ref v0), some (.int v1), some (.int v2), some (.int v3), some (.int v4)] [] w = (bif rv_cnd .ge v4 v2 then some (some (.int v3), w) else ((rv_ldFR w v0 4 0).bind fun a1 => ((rv_ldI w a1 (v1 + v4)).bind fun x2 => rv_GO rc_X5_sumOf 5 [some (.ref v0), some (.int v1), some (.int v2), some (.int (v3 + x2)), some (.int (v4 + 1))] [] w))) := by
  rw [← rv_blk_eq [5] 16]
  rfl
set_option maxRecDepth 100000 in
set_option maxHeartbeats 4000000 in
theorem ev_X5_coldTubs (p : Nat) (w : rv_W) (hp : (rv_obj w p 4).isSome = true) : rv_EV 142 [.ref p] w = rv_GO rc_X5_coldTubs 4 [some (.ref p), some (.int 0), some (.int 0)] [] w := by
  have e : rv_EV 142 [.ref p] w = rv_GO rc_X5_coldTubs 0 [some (.ref p), none, none] [] w := by
    show cond ((rv_obj w p 4).isSome && true) _ _ = _
    rw [hp]
    rfl
  rw [e, ← rv_blk_eq [4] 6]
  rfl
set_option maxRecDepth 100000 in
set_option maxHeartbeats 4000000 in
theorem bk_X5_coldTubs_4 (v0 : Nat) (v1 : Int32) (v2 : Int32) (w : rv_W) : rv_GO rc_X5_coldTubs 4 [some (.ref v0), some (.int v1), some (.int v2)] [] w = (bif rv_cnd .ge v2 10 then some (some (.int v1), w) else ((rv_ldFR w v0 4 0).bind fun a1 => ((rv_ldI w a1 (4 + v2)).bind fun x2 => (bif rv_cnd .ge x2 40 then rv_GO rc_X5_coldTubs 4 [some (.ref v0), some (.int (v1 ||| 0)), some (.int (v2 + 1))] [] w else rv_GO rc_X5_coldTubs 4 [some (.ref v0), some (.int (v1 ||| (1 <<< (v2 &&& 31)))), some (.int (v2 + 1))] [] w)))) := by
  rw [← rv_blk_eq [4] 22]
  rfl
set_option maxRecDepth 100000 in
set_option maxHeartbeats 4000000 in
theorem ev_X5_knowing (p : Nat) (w : rv_W) (hp : (rv_obj w p 4).isSome = true) : rv_EV 143 [.ref p] w = rv_GO rc_X5_knowing 4 [some (.ref p), some (.int 0), some (.int 0)] [] w := by
  have e : rv_EV 143 [.ref p] w = rv_GO rc_X5_knowing 0 [some (.ref p), none, none] [] w := by
    show cond ((rv_obj w p 4).isSome && true) _ _ = _
    rw [hp]
    rfl
  rw [e, ← rv_blk_eq [4] 6]
  rfl
set_option maxRecDepth 100000 in
set_option maxHeartbeats 4000000 in
theorem bk_X5_knowing_4 (v0 : Nat) (v1 : Int32) (v2 : Int32) (w : rv_W) : rv_GO rc_X5_knowing 4 [some (.ref v0), some (.int v1), some (.int v2)] [] w = ((rv_ldFR w v0 4 0).bind fun a1 => ((rv_ldI w a1 0).bind fun x2 => (bif rv_cnd .ge v2 x2 then some (some (.int v1), w) else ((rv_ri (rv_EV 114 [.ref v0, .int v2, .int 3] w)).bind fun q3 => ((rv_ri (rv_EV 114 [.ref v0, .int v2, .int 2] q3.2)).bind fun q4 => (bif rv_cnd .ne (q3.1 ||| (1 <<< (q4.1 &&& 31))) 15 then rv_GO rc_X5_knowing 4 [some (.ref v0), some (.int (v1 ||| 0)), some (.int (v2 + 1))] [] q4.2 else rv_GO rc_X5_knowing 4 [some (.ref v0), some (.int (v1 ||| (1 <<< (v2 &&& 31)))), some (.int (v2 + 1))] [] q4.2)))))) := by
  rw [← rv_blk_eq [4] 30]
  rfl
set_option maxRecDepth 100000 in
set_option maxHeartbeats 4000000 in
theorem ev_X5_unknown (p : Nat) (w : rv_W) (hp : (rv_obj w p 4).isSome = true) : rv_EV 144 [.ref p] w = rv_GO rc_X5_unknown 4 [some (.ref p), some (.int 0), some (.int 0), none, none] [] w := by
  have e : rv_EV 144 [.ref p] w = rv_GO rc_X5_unknown 0 [some (.ref p), none, none, none, none] [] w := by
    show cond ((rv_obj w p 4).isSome && true) _ _ = _
    rw [hp]
    rfl
  rw [e, ← rv_blk_eq [4, 19] 6]
  rfl
set_option maxRecDepth 100000 in
set_option maxHeartbeats 4000000 in
theorem bk_X5_unknown_4 (v0 : Nat) (v1 : Int32) (v2 : Int32) (w : rv_W) : rv_GO rc_X5_unknown 4 [some (.ref v0), some (.int v1), some (.int v2), none, none] [] w = ((rv_ldFR w v0 4 0).bind fun a1 => ((rv_ldI w a1 0).bind fun x2 => (bif rv_cnd .ge v2 x2 then some (some (.int v1), w) else rv_GO rc_X5_unknown 19 [some (.ref v0), some (.int v1), some (.int v2), some (.int 1), some (.int 0)] [] w))) := by
  rw [← rv_blk_eq [4, 19] 12]
  rfl
set_option maxRecDepth 100000 in
set_option maxHeartbeats 4000000 in
theorem bk_X5_unknown_19 (v0 : Nat) (v1 : Int32) (v2 : Int32) (v3 : Int32) (v4 : Int32) (w : rv_W) : rv_GO rc_X5_unknown 19 [some (.ref v0), some (.int v1), some (.int v2), some (.int v3), some (.int v4)] [] w = ((rv_ldFR w v0 4 0).bind fun a1 => ((rv_ldI w a1 0).bind fun x2 => (bif rv_cnd .ge v4 x2 then (bif rv_cnd .eq v3 0 then rv_GO rc_X5_unknown 4 [some (.ref v0), some (.int (v1 ||| 0)), some (.int (v2 + 1)), none, none] [] w else rv_GO rc_X5_unknown 4 [some (.ref v0), some (.int (v1 ||| (1 <<< (v2 &&& 31)))), some (.int (v2 + 1)), none, none] [] w) else (bif rv_cnd .eq v4 v2 then rv_GO rc_X5_unknown 19 [some (.ref v0), some (.int v1), some (.int v2), some (.int (v3 &&& 1)), some (.int (v4 + 1))] [] w else ((rv_ri (rv_EV 114 [.ref v0, .int v4, .int 3] w)).bind fun q3 => ((rv_ri (rv_EV 114 [.ref v0, .int v2, .int 2] q3.2)).bind fun q4 => (bif rv_cnd .ne ((q3.1 >>> (q4.1 &&& 31)) &&& 1) 0 then rv_GO rc_X5_unknown 19 [some (.ref v0), some (.int v1), some (.int v2), some (.int (v3 &&& 0)), some (.int (v4 + 1))] [] q4.2 else rv_GO rc_X5_unknown 19 [some (.ref v0), some (.int v1), some (.int v2), some (.int (v3 &&& 1)), some (.int (v4 + 1))] [] q4.2))))))) := by
  rw [← rv_blk_eq [4, 19] 30]
  rfl
set_option maxRecDepth 100000 in
set_option maxHeartbeats 4000000 in
theorem ev_X5_now (p : Nat) (n1 : Int32) (w : rv_W) (hp : (rv_obj w p 4).isSome = true) : rv_EV 145 [.ref p, .int n1] w = (bif rv_eq n1 (Int32.ofInt 0) then ((rv_ldFR w p 4 0).bind fun a7 => ((rv_ldI w a7 1).bind fun x8 => some (some (.int x8), w))) else (bif rv_eq n1 (Int32.ofInt 1) then ((rv_ri (rv_EV 141 [.ref p, .int 4, .int 10] w)).bind fun q6 => some (some (.int q6.1), q6.2)) else (bif rv_eq n1 (Int32.ofInt 2) then ((rv_ri (rv_EV 141 [.ref p, .int 14, .int 40] w)).bind fun q5 => some (some (.int q5.1), q5.2)) else (bif rv_eq n1 (Int32.ofInt 3) then ((rv_ri (rv_EV 142 [.ref p] w)).bind fun q4 => some (some (.int q4.1), q4.2)) else (bif rv_eq n1 (Int32.ofInt 4) then ((rv_ri (rv_EV 143 [.ref p] w)).bind fun q3 => some (some (.int q3.1), q3.2)) else (bif rv_eq n1 (Int32.ofInt 5) then ((rv_ri (rv_EV 144 [.ref p] w)).bind fun q2 => some (some (.int q2.1), q2.2)) else ((rv_ri (rv_EV 108 [.ref p, .int (-1000001)] w)).bind fun q1 => some (some (.int q1.1), q1.2)))))))) := by
  have e : rv_EV 145 [.ref p, .int n1] w = rv_GO rc_X5_now 0 [some (.ref p), some (.int n1)] [] w := by
    show cond ((rv_obj w p 4).isSome && true) _ _ = _
    rw [hp]
    rfl
  rw [e, ← rv_blk_eq [] 8]
  rfl
set_option maxRecDepth 100000 in
set_option maxHeartbeats 4000000 in
theorem ev_X5_ahead (p : Nat) (n1 : Int32) (n2 : Int32) (n3 : Int32) (w : rv_W) (hp : (rv_obj w p 4).isSome = true) : rv_EV 146 [.ref p, .int n1, .int n2, .int n3] w = ((rv_ri (rv_EV 111 [.int n1] w)).bind fun q1 => (bif rv_cnd .eq q1.1 0 then ((rv_ri (rv_EV 108 [.ref p, .int (-1000001)] q1.2)).bind fun q2 => some (some (.int q2.1), q2.2)) else ((rv_ri (rv_EV 107 [.long (Int32.toInt64 n2), .long (Int32.toInt64 0), .long (Int32.toInt64 4)] q1.2)).bind fun q3 => (bif rv_cnd .eq q3.1 0 then ((rv_ri (rv_EV 108 [.ref p, .int (-1000001)] q3.2)).bind fun q4 => some (some (.int q4.1), q4.2)) else ((rv_ri (rv_EV 107 [.long (Int32.toInt64 n3), .long (Int32.toInt64 0), .long (Int32.toInt64 60)] q3.2)).bind fun q5 => (bif rv_cnd .ne q5.1 0 then ((rv_ldFR q5.2 p 4 0).bind fun a6 => ((rv_ldFR q5.2 p 4 3).bind fun a7 => ((rv_rv (rv_EV 110 [.ref a6, .ref a7] q5.2)).bind fun q8 => ((rv_rv (rv_EV 139 [.ref p, .int n3] q8)).bind fun q9 => (bif rv_cnd .ne n2 4 then ((rv_ldFR q9 p 4 0).bind fun a10 => ((rv_ri (rv_EV 118 [.int n1, .int n2] q9)).bind fun q11 => ((rv_ldI q11.2 a10 q11.1).bind fun x12 => rv_GO rc_X5_ahead 80 [some (.ref p), none, none, none, none] [.int x12] q11.2))) else ((rv_ldFR q9 p 4 0).bind fun a13 => ((rv_ldI q9 a13 (4 + n1)).bind fun x14 => rv_GO rc_X5_ahead 80 [some (.ref p), none, none, none, none] [.int x14] q9))))))) else ((rv_ri (rv_EV 108 [.ref p, .int (-1000001)] q5.2)).bind fun q15 => some (some (.int q15.1), q15.2)))))))) := by
  have e : rv_EV 146 [.ref p, .int n1, .int n2, .int n3] w = rv_GO rc_X5_ahead 0 [some (.ref p), some (.int n1), some (.int n2), some (.int n3), none] [] w := by
    show cond ((rv_obj w p 4).isSome && true) _ _ = _
    rw [hp]
    rfl
  rw [e, ← rv_blk_eq [80] 35]
  rfl
set_option maxRecDepth 100000 in
set_option maxHeartbeats 4000000 in
theorem bk_X5_ahead_80 (v0 : Nat) (s0 : Int32) (w : rv_W) : rv_GO rc_X5_ahead 80 [some (.ref v0), none, none, none, none] [.int s0] w = ((rv_ldFR w v0 4 3).bind fun a1 => ((rv_ldFR w v0 4 0).bind fun a2 => ((rv_rv (rv_EV 110 [.ref a1, .ref a2] w)).bind fun q3 => some (some (.int s0), q3)))) := by
  rw [← rv_blk_eq [80] 9]
  rfl
set_option maxRecDepth 100000 in
set_option maxHeartbeats 4000000 in
theorem ev_X5_knownIn (p : Nat) (n1 : Int32) (n2 : Int32) (w : rv_W) (hp : (rv_obj w p 4).isSome = true) : rv_EV 147 [.ref p, .int n1, .int n2] w = ((rv_ldFR w p 4 0).bind fun a1 => ((rv_ldFR w p 4 3).bind fun a2 => ((rv_rv (rv_EV 110 [.ref a1, .ref a2] w)).bind fun q3 => ((rv_rv (rv_EV 139 [.ref p, .int n2] q3)).bind fun q4 => ((rv_ri (rv_EV 114 [.ref p, .int n1, .int 3] q4)).bind fun q5 => ((rv_ldFR q5.2 p 4 3).bind fun a6 => ((rv_ldFR q5.2 p 4 0).bind fun a7 => ((rv_rv (rv_EV 110 [.ref a6, .ref a7] q5.2)).bind fun q8 => some (some (.int q5.1), q8))))))))) := by
  have e : rv_EV 147 [.ref p, .int n1, .int n2] w = rv_GO rc_X5_knownIn 0 [some (.ref p), some (.int n1), some (.int n2), none] [] w := by
    show cond ((rv_obj w p 4).isSome && true) _ _ = _
    rw [hp]
    rfl
  rw [e, ← rv_blk_eq [] 21]
  rfl
set_option maxRecDepth 100000 in
set_option maxHeartbeats 4000000 in
theorem ev_X5_knows (p : Nat) (n1 : Int32) (n2 : Int32) (w : rv_W) (hp : (rv_obj w p 4).isSome = true) : rv_EV 148 [.ref p, .int n1, .int n2] w = ((rv_ri (rv_EV 113 [.ref p, .int n1] w)).bind fun q1 => (bif rv_cnd .eq q1.1 0 then ((rv_ri (rv_EV 108 [.ref p, .int (-1000001)] q1.2)).bind fun q2 => some (some (.int q2.1), q2.2)) else ((rv_ri (rv_EV 107 [.long (Int32.toInt64 n2), .long (Int32.toInt64 0), .long (Int32.toInt64 60)] q1.2)).bind fun q3 => (bif rv_cnd .eq q3.1 0 then ((rv_ri (rv_EV 108 [.ref p, .int (-1000001)] q3.2)).bind fun q4 => some (some (.int q4.1), q4.2)) else ((rv_ri (rv_EV 147 [.ref p, .int n1, .int n2] q3.2)).bind fun q5 => some (some (.int q5.1), q5.2)))))) := by
  have e : rv_EV 148 [.ref p, .int n1, .int n2] w = rv_GO rc_X5_knows 0 [some (.ref p), some (.int n1), some (.int n2)] [] w := by
    show cond ((rv_obj w p 4).isSome && true) _ _ = _
    rw [hp]
    rfl
  rw [e, ← rv_blk_eq [] 17]
  rfl
set_option maxRecDepth 100000 in
set_option maxHeartbeats 4000000 in
theorem ev_X5_soonest (p : Nat) (n1 : Int32) (n2 : Int32) (w : rv_W) (hp : (rv_obj w p 4).isSome = true) : rv_EV 149 [.ref p, .int n1, .int n2] w = ((rv_ldFR w p 4 0).bind fun a1 => ((rv_ldFR w p 4 3).bind fun a2 => ((rv_rv (rv_EV 110 [.ref a1, .ref a2] w)).bind fun q3 => rv_GO rc_X5_soonest 13 [some (.ref p), some (.int n1), some (.int n2), some (.int 0)] [] q3))) := by
  have e : rv_EV 149 [.ref p, .int n1, .int n2] w = rv_GO rc_X5_soonest 0 [some (.ref p), some (.int n1), some (.int n2), none] [] w := by
    show cond ((rv_obj w p 4).isSome && true) _ _ = _
    rw [hp]
    rfl
  rw [e, ← rv_blk_eq [13, 43] 9]
  rfl
set_option maxRecDepth 100000 in
set_option maxHeartbeats 4000000 in
theorem bk_X5_soonest_13 (v0 : Nat) (v1 : Int32) (v2 : Int32) (v3 : Int32) (w : rv_W) : rv_GO rc_X5_soonest 13 [some (.ref v0), some (.int v1), some (.int v2), some (.int v3)] [] w = (bif rv_cnd .gt v3 60 then rv_GO rc_X5_soonest 43 [some (.ref v0), none, none, some (.int v3)] [] w else ((rv_ri (rv_EV 114 [.ref v0, .int v1, .int 3] w)).bind fun q1 => (bif rv_cnd .ne ((q1.1 >>> (v2 &&& 31)) &&& 1) 0 then rv_GO rc_X5_soonest 43 [some (.ref v0), none, none, some (.int v3)] [] q1.2 else ((rv_rv (rv_EV 139 [.ref v0, .int 1] q1.2)).bind fun q2 => rv_GO rc_X5_soonest 13 [some (.ref v0), some (.int v1), some (.int v2), some (.int (v3 + 1))] [] q2)))) := by
  rw [← rv_blk_eq [13, 43] 19]
  rfl
set_option maxRecDepth 100000 in
set_option maxHeartbeats 4000000 in
theorem bk_X5_soonest_43 (v0 : Nat) (v3 : Int32) (w : rv_W) : rv_GO rc_X5_soonest 43 [some (.ref v0), none, none, some (.int v3)] [] w = ((rv_ldFR w v0 4 3).bind fun a1 => ((rv_ldFR w v0 4 0).bind fun a2 => ((rv_rv (rv_EV 110 [.ref a1, .ref a2] w)).bind fun q3 => (bif rv_cnd .gt v3 60 then some (some (.int (-1)), q3) else some (some (.int v3), q3))))) := by
  rw [← rv_blk_eq [13, 43] 12]
  rfl
set_option maxRecDepth 100000 in
set_option maxHeartbeats 4000000 in
theorem ev_X5_when (p : Nat) (n1 : Int32) (n2 : Int32) (w : rv_W) (hp : (rv_obj w p 4).isSome = true) : rv_EV 150 [.ref p, .int n1, .int n2] w = ((rv_ri (rv_EV 113 [.ref p, .int n1] w)).bind fun q1 => (bif rv_cnd .eq q1.1 0 then ((rv_ri (rv_EV 108 [.ref p, .int (-1000001)] q1.2)).bind fun q2 => some (some (.int q2.1), q2.2)) else ((rv_ri (rv_EV 112 [.int n2] q1.2)).bind fun q3 => (bif rv_cnd .eq q3.1 0 then ((rv_ri (rv_EV 108 [.ref p, .int (-1000001)] q3.2)).bind fun q4 => some (some (.int q4.1), q4.2)) else ((rv_ri (rv_EV 149 [.ref p, .int n1, .int n2] q3.2)).bind fun q5 => ((rv_ri (rv_EV 115 [.ref p, .int q5.1] q5.2)).bind fun q6 => some (some (.int q6.1), q6.2))))))) := by
  have e : rv_EV 150 [.ref p, .int n1, .int n2] w = rv_GO rc_X5_when 0 [some (.ref p), some (.int n1), some (.int n2)] [] w := by
    show cond ((rv_obj w p 4).isSome && true) _ _ = _
    rw [hp]
    rfl
  rw [e, ← rv_blk_eq [] 16]
  rfl
set_option maxRecDepth 100000 in
set_option maxHeartbeats 4000000 in
theorem ev_X5_cold (p : Nat) (n1 : Int32) (n2 : Int32) (w : rv_W) (hp : (rv_obj w p 4).isSome = true) : rv_EV 151 [.ref p, .int n1, .int n2] w = ((rv_ri (rv_EV 111 [.int n1] w)).bind fun q1 => (bif rv_cnd .eq q1.1 0 then ((rv_ri (rv_EV 108 [.ref p, .int (-1000001)] q1.2)).bind fun q2 => some (some (.int q2.1), q2.2)) else ((rv_ri (rv_EV 107 [.long (Int32.toInt64 n2), .long (Int32.toInt64 0), .long (Int32.toInt64 99)] q1.2)).bind fun q3 => (bif rv_cnd .ne q3.1 0 then ((rv_ldFR q3.2 p 4 0).bind fun a4 => ((rv_ldFR q3.2 p 4 3).bind fun a5 => ((rv_rv (rv_EV 110 [.ref a4, .ref a5] q3.2)).bind fun q6 => rv_GO rc_X5_cold 39 [some (.ref p), some (.int n1), some (.int n2), some (.int 0)] [] q6))) else ((rv_ri (rv_EV 108 [.ref p, .int (-1000001)] q3.2)).bind fun q7 => some (some (.int q7.1), q7.2)))))) := by
  have e : rv_EV 151 [.ref p, .int n1, .int n2] w = rv_GO rc_X5_cold 0 [some (.ref p), some (.int n1), some (.int n2), none] [] w := by
    show cond ((rv_obj w p 4).isSome && true) _ _ = _
    rw [hp]
    rfl
  rw [e, ← rv_blk_eq [39, 68] 18]
  rfl
set_option maxRecDepth 100000 in
set_option maxHeartbeats 4000000 in
theorem bk_X5_cold_39 (v0 : Nat) (v1 : Int32) (v2 : Int32) (v3 : Int32) (w : rv_W) : rv_GO rc_X5_cold 39 [some (.ref v0), some (.int v1), some (.int v2), some (.int v3)] [] w = (bif rv_cnd .gt v3 60 then rv_GO rc_X5_cold 68 [some (.ref v0), none, none, some (.int v3)] [] w else ((rv_ldFR w v0 4 0).bind fun a1 => ((rv_ldI w a1 (4 + v1)).bind fun x2 => (bif rv_cnd .lt x2 v2 then rv_GO rc_X5_cold 68 [some (.ref v0), none, none, some (.int v3)] [] w else ((rv_rv (rv_EV 139 [.ref v0, .int 1] w)).bind fun q3 => rv_GO rc_X5_cold 39 [some (.ref v0), some (.int v1), some (.int v2), some (.int (v3 + 1))] [] q3))))) := by
  rw [← rv_blk_eq [39, 68] 18]
  rfl
set_option maxRecDepth 100000 in
set_option maxHeartbeats 4000000 in
theorem bk_X5_cold_68 (v0 : Nat) (v3 : Int32) (w : rv_W) : rv_GO rc_X5_cold 68 [some (.ref v0), none, none, some (.int v3)] [] w = ((rv_ldFR w v0 4 3).bind fun a1 => ((rv_ldFR w v0 4 0).bind fun a2 => ((rv_rv (rv_EV 110 [.ref a1, .ref a2] w)).bind fun q3 => (bif rv_cnd .gt v3 60 then ((rv_ri (rv_EV 108 [.ref v0, .int (-1000004)] q3)).bind fun q4 => some (some (.int q4.1), q4.2)) else some (some (.int v3), q3))))) := by
  rw [← rv_blk_eq [39, 68] 13]
  rfl
set_option maxRecDepth 100000 in
set_option maxHeartbeats 4000000 in
theorem ev_X5_leftOf (n1 : Int32) (n2 : Int32) (w : rv_W) : rv_EV 152 [.int n1, .int n2] w = rv_GO rc_X5_leftOf 4 [none, some (.int n2), some (.int n1), some (.int 0)] [] w := by
  have e : rv_EV 152 [.int n1, .int n2] w = rv_GO rc_X5_leftOf 0 [some (.int n1), some (.int n2), none, none] [] w := by
    rfl
  rw [e, ← rv_blk_eq [4] 6]
  rfl
set_option maxRecDepth 100000 in
set_option maxHeartbeats 4000000 in
theorem bk_X5_leftOf_4 (v1 : Int32) (v2 : Int32) (v3 : Int32) (w : rv_W) : rv_GO rc_X5_leftOf 4 [none, some (.int v1), some (.int v2), some (.int v3)] [] w = (bif rv_cnd .ge v3 v1 then some (some (.int v2), w) else (bif rv_eq 4 0 then none else rv_GO rc_X5_leftOf 4 [none, some (.int v1), some (.int ((v2 * 3) / 4)), some (.int (v3 + 1))] [] w)) := by
  rw [← rv_blk_eq [4] 13]
  rfl
set_option maxRecDepth 100000 in
set_option maxHeartbeats 4000000 in
theorem ev_X5_left (p : Nat) (n1 : Int32) (n2 : Int32) (w : rv_W) (hp : (rv_obj w p 4).isSome = true) : rv_EV 153 [.ref p, .int n1, .int n2] w = ((rv_ri (rv_EV 107 [.long (Int32.toInt64 n1), .long (Int32.toInt64 0), .long (Int32.toInt64 9999)] w)).bind fun q1 => (bif rv_cnd .eq q1.1 0 then ((rv_ri (rv_EV 108 [.ref p, .int (-1000001)] q1.2)).bind fun q2 => some (some (.int q2.1), q2.2)) else ((rv_ri (rv_EV 107 [.long (Int32.toInt64 n2), .long (Int32.toInt64 0), .long (Int32.toInt64 9)] q1.2)).bind fun q3 => (bif rv_cnd .eq q3.1 0 then ((rv_ri (rv_EV 108 [.ref p, .int (-1000001)] q3.2)).bind fun q4 => some (some (.int q4.1), q4.2)) else ((rv_ri (rv_EV 152 [.int n1, .int n2] q3.2)).bind fun q5 => some (some (.int q5.1), q5.2)))))) := by
  have e : rv_EV 153 [.ref p, .int n1, .int n2] w = rv_GO rc_X5_left 0 [some (.ref p), some (.int n1), some (.int n2)] [] w := by
    show cond ((rv_obj w p 4).isSome && true) _ _ = _
    rw [hp]
    rfl
  rw [e, ← rv_blk_eq [] 18]
  rfl
set_option maxRecDepth 100000 in
set_option maxHeartbeats 4000000 in
theorem ev_X5_needed (p : Nat) (n1 : Int32) (n2 : Int32) (w : rv_W) (hp : (rv_obj w p 4).isSome = true) : rv_EV 154 [.ref p, .int n1, .int n2] w = ((rv_ri (rv_EV 107 [.long (Int32.toInt64 n1), .long (Int32.toInt64 0), .long (Int32.toInt64 500)] w)).bind fun q1 => (bif rv_cnd .eq q1.1 0 then ((rv_ri (rv_EV 108 [.ref p, .int (-1000001)] q1.2)).bind fun q2 => some (some (.int q2.1), q2.2)) else ((rv_ri (rv_EV 107 [.long (Int32.toInt64 n2), .long (Int32.toInt64 0), .long (Int32.toInt64 9)] q1.2)).bind fun q3 => (bif rv_cnd .ne q3.1 0 then rv_GO rc_X5_needed 33 [some (.ref p), some (.int n1), some (.int n2), some (.int 0)] [] q3.2 else ((rv_ri (rv_EV 108 [.ref p, .int (-1000001)] q3.2)).bind fun q4 => some (some (.int q4.1), q4.2)))))) := by
  have e : rv_EV 154 [.ref p, .int n1, .int n2] w = rv_GO rc_X5_needed 0 [some (.ref p), some (.int n1), some (.int n2), none] [] w := by
    show cond ((rv_obj w p 4).isSome && true) _ _ = _
    rw [hp]
    rfl
  rw [e, ← rv_blk_eq [33, 55] 17]
  rfl
set_option maxRecDepth 100000 in
set_option maxHeartbeats 4000000 in
theorem bk_X5_needed_33 (v0 : Nat) (v1 : Int32) (v2 : Int32) (v3 : Int32) (w : rv_W) : rv_GO rc_X5_needed 33 [some (.ref v0), some (.int v1), some (.int v2), some (.int v3)] [] w = (bif rv_cnd .gt v3 9999 then rv_GO rc_X5_needed 55 [some (.ref v0), none, none, some (.int v3)] [] w else ((rv_ri (rv_EV 152 [.int v3, .int v2] w)).bind fun q1 => (bif rv_cnd .ge q1.1 v1 then rv_GO rc_X5_needed 55 [some (.ref v0), none, none, some (.int v3)] [] q1.2 else rv_GO rc_X5_needed 33 [some (.ref v0), some (.int v1), some (.int v2), some (.int (v3 + 1))] [] q1.2))) := by
  rw [← rv_blk_eq [33, 55] 12]
  rfl
set_option maxRecDepth 100000 in
set_option maxHeartbeats 4000000 in
theorem bk_X5_needed_55 (v0 : Nat) (v3 : Int32) (w : rv_W) : rv_GO rc_X5_needed 55 [some (.ref v0), none, none, some (.int v3)] [] w = (bif rv_cnd .gt v3 9999 then ((rv_ri (rv_EV 108 [.ref v0, .int (-1000004)] w)).bind fun q1 => some (some (.int q1.1), q1.2)) else some (some (.int v3), w)) := by
  rw [← rv_blk_eq [33, 55] 8]
  rfl
set_option maxRecDepth 100000 in
set_option maxHeartbeats 4000000 in
theorem ev_X5_swapFor (p : Nat) (n1 : Int32) (n2 : Int32) (w : rv_W) (hp : (rv_obj w p 4).isSome = true) : rv_EV 155 [.ref p, .int n1, .int n2] w = ((rv_ri (rv_EV 113 [.ref p, .int n1] w)).bind fun q1 => (bif rv_cnd .eq q1.1 0 then ((rv_ri (rv_EV 108 [.ref p, .int (-1000001)] q1.2)).bind fun q2 => some (some (.int q2.1), q2.2)) else ((rv_ri (rv_EV 107 [.long (Int32.toInt64 n2), .long (Int32.toInt64 0), .long (Int32.toInt64 40)] q1.2)).bind fun q3 => (bif rv_cnd .ne q3.1 0 then rv_GO rc_X5_swapFor 35 [some (.ref p), some (.int n1), some (.int n2), some (.int (-1)), some (.int (-1)), some (.int 0), none, none] [] q3.2 else ((rv_ri (rv_EV 108 [.ref p, .int (-1000001)] q3.2)).bind fun q4 => some (some (.int q4.1), q4.2)))))) := by
  have e : rv_EV 155 [.ref p, .int n1, .int n2] w = rv_GO rc_X5_swapFor 0 [some (.ref p), some (.int n1), some (.int n2), none, none, none, none, none] [] w := by
    show cond ((rv_obj w p 4).isSome && true) _ _ = _
    rw [hp]
    rfl
  rw [e, ← rv_blk_eq [35, 94] 18]
  rfl
set_option maxRecDepth 100000 in
set_option maxHeartbeats 4000000 in
theorem bk_X5_swapFor_35 (v0 : Nat) (v1 : Int32) (v2 : Int32) (v3 : Int32) (v4 : Int32) (v5 : Int32) (w : rv_W) : rv_GO rc_X5_swapFor 35 [some (.ref v0), some (.int v1), some (.int v2), some (.int v3), some (.int v4), some (.int v5), none, none] [] w = ((rv_ldFR w v0 4 0).bind fun a1 => ((rv_ldI w a1 0).bind fun x2 => (bif rv_cnd .ge v5 x2 then ((rv_ri (rv_EV 115 [.ref v0, .int v3] w)).bind fun q3 => some (some (.int q3.1), q3.2)) else (bif rv_cnd .eq v5 v1 then rv_GO rc_X5_swapFor 35 [some (.ref v0), some (.int v1), some (.int v2), some (.int v3), some (.int v4), some (.int (v5 + 1)), none, none] [] w else ((rv_ri (rv_EV 135 [.ref v0, .int v1, .int v5] w)).bind fun q4 => ((rv_ri (rv_EV 147 [.ref v0, .int v1, .int v2] q4.2)).bind fun q5 => ((rv_ri (rv_EV 116 [.int q5.1] q5.2)).bind fun q6 => ((rv_ri (rv_EV 135 [.ref v0, .int v1, .int v5] q6.2)).bind fun q7 => (bif rv_cnd .le q6.1 v4 then rv_GO rc_X5_swapFor 94 [some (.ref v0), some (.int v1), some (.int v2), none, some (.int v4), some (.int v5), none, some (.int q6.1)] [.int v3] q7.2 else rv_GO rc_X5_swapFor 94 [some (.ref v0), some (.int v1), some (.int v2), none, some (.int v4), some (.int v5), none, some (.int q6.1)] [.int v5] q7.2))))))))) := by
  rw [← rv_blk_eq [35, 94] 32]
  rfl
set_option maxRecDepth 100000 in
set_option maxHeartbeats 4000000 in
theorem bk_X5_swapFor_94 (v0 : Nat) (v1 : Int32) (v2 : Int32) (v4 : Int32) (v5 : Int32) (v7 : Int32) (s0 : Int32) (w : rv_W) : rv_GO rc_X5_swapFor 94 [some (.ref v0), some (.int v1), some (.int v2), none, some (.int v4), some (.int v5), none, some (.int v7)] [.int s0] w = (bif rv_cnd .le v7 v4 then rv_GO rc_X5_swapFor 35 [some (.ref v0), some (.int v1), some (.int v2), some (.int s0), some (.int v4), some (.int (v5 + 1)), none, none] [] w else rv_GO rc_X5_swapFor 35 [some (.ref v0), some (.int v1), some (.int v2), some (.int s0), some (.int v7), some (.int (v5 + 1)), none, none] [] w) := by
  rw [← rv_blk_eq [35, 94] 11]
  rfl
set_option maxRecDepth 100000 in
set_option maxHeartbeats 4000000 in
theorem ev_X5_seat (p : Nat) (n1 : Int32) (n2 : Int32) (w : rv_W) (hp : (rv_obj w p 4).isSome = true) : rv_EV 156 [.ref p, .int n1, .int n2] w = ((rv_ri (rv_EV 113 [.ref p, .int n1] w)).bind fun q1 => (bif rv_cnd .eq q1.1 0 then ((rv_ri (rv_EV 108 [.ref p, .int (-1000001)] q1.2)).bind fun q2 => some (some (.int q2.1), q2.2)) else ((rv_ri (rv_EV 112 [.int n2] q1.2)).bind fun q3 => (bif rv_cnd .ne q3.1 0 then ((rv_ldFR q3.2 p 4 0).bind fun a4 => ((rv_ldI q3.2 a4 ((54 + (4 * n1)) + 1)).bind fun x5 => rv_GO rc_X5_seat 49 [some (.ref p), some (.int n1), some (.int n2), some (.int ((54 + (4 * n1)) + 1)), some (.int x5), some (.int (-1)), some (.int 61), some (.int 0), none, none] [] q3.2)) else ((rv_ri (rv_EV 108 [.ref p, .int (-1000001)] q3.2)).bind fun q6 => some (some (.int q6.1), q6.2)))))) := by
  have e : rv_EV 156 [.ref p, .int n1, .int n2] w = rv_GO rc_X5_seat 0 [some (.ref p), some (.int n1), some (.int n2), none, none, none, none, none, none, none] [] w := by
    show cond ((rv_obj w p 4).isSome && true) _ _ = _
    rw [hp]
    rfl
  rw [e, ← rv_blk_eq [49, 89, 103] 28]
  rfl
set_option maxRecDepth 100000 in
set_option maxHeartbeats 4000000 in
theorem bk_X5_seat_49 (v0 : Nat) (v1 : Int32) (v2 : Int32) (v3 : Int32) (v4 : Int32) (v5 : Int32) (v6 : Int32) (v7 : Int32) (w : rv_W) : rv_GO rc_X5_seat 49 [some (.ref v0), some (.int v1), some (.int v2), some (.int v3), some (.int v4), some (.int v5), some (.int v6), some (.int v7), none, none] [] w = (bif rv_cnd .ge v7 10 then ((rv_ldFR w v0 4 0).bind fun a1 => ((rv_stI w a1 v3 v4).bind fun w2 => ((rv_ri (rv_EV 115 [.ref v0, .int v5] w2)).bind fun q3 => some (some (.int q3.1), q3.2)))) else ((rv_ldFR w v0 4 0).bind fun a4 => ((rv_stI w a4 v3 v7).bind fun w5 => ((rv_ri (rv_EV 149 [.ref v0, .int v1, .int v2] w5)).bind fun q6 => (bif rv_cnd .lt q6.1 0 then rv_GO rc_X5_seat 89 [some (.ref v0), some (.int v1), some (.int v2), some (.int v3), some (.int v4), some (.int v5), some (.int v6), some (.int v7), some (.int q6.1), none] [.int 0] q6.2 else (bif rv_cnd .ge q6.1 v6 then rv_GO rc_X5_seat 89 [some (.ref v0), some (.int v1), some (.int v2), some (.int v3), some (.int v4), some (.int v5), some (.int v6), some (.int v7), some (.int q6.1), none] [.int 0] q6.2 else rv_GO rc_X5_seat 89 [some (.ref v0), some (.int v1), some (.int v2), some (.int v3), some (.int v4), some (.int v5), some (.int v6), some (.int v7), some (.int q6.1), none] [.int 1] q6.2)))))) := by
  rw [← rv_blk_eq [49, 89, 103] 22]
  rfl
set_option maxRecDepth 100000 in
set_option maxHeartbeats 4000000 in
theorem bk_X5_seat_89 (v0 : Nat) (v1 : Int32) (v2 : Int32) (v3 : Int32) (v4 : Int32) (v5 : Int32) (v6 : Int32) (v7 : Int32) (v8 : Int32) (s0 : Int32) (w : rv_W) : rv_GO rc_X5_seat 89 [some (.ref v0), some (.int v1), some (.int v2), some (.int v3), some (.int v4), some (.int v5), some (.int v6), some (.int v7), some (.int v8), none] [.int s0] w = (bif rv_cnd .eq s0 0 then rv_GO rc_X5_seat 103 [some (.ref v0), some (.int v1), some (.int v2), some (.int v3), some (.int v4), none, some (.int v6), some (.int v7), some (.int v8), some (.int s0)] [.int v5] w else rv_GO rc_X5_seat 103 [some (.ref v0), some (.int v1), some (.int v2), some (.int v3), some (.int v4), none, some (.int v6), some (.int v7), some (.int v8), some (.int s0)] [.int v7] w) := by
  rw [← rv_blk_eq [49, 89, 103] 7]
  rfl
set_option maxRecDepth 100000 in
set_option maxHeartbeats 4000000 in
theorem bk_X5_seat_103 (v0 : Nat) (v1 : Int32) (v2 : Int32) (v3 : Int32) (v4 : Int32) (v6 : Int32) (v7 : Int32) (v8 : Int32) (v9 : Int32) (s0 : Int32) (w : rv_W) : rv_GO rc_X5_seat 103 [some (.ref v0), some (.int v1), some (.int v2), some (.int v3), some (.int v4), none, some (.int v6), some (.int v7), some (.int v8), some (.int v9)] [.int s0] w = (bif rv_cnd .eq v9 0 then rv_GO rc_X5_seat 49 [some (.ref v0), some (.int v1), some (.int v2), some (.int v3), some (.int v4), some (.int s0), some (.int v6), some (.int (v7 + 1)), none, none] [] w else rv_GO rc_X5_seat 49 [some (.ref v0), some (.int v1), some (.int v2), some (.int v3), some (.int v4), some (.int s0), some (.int v8), some (.int (v7 + 1)), none, none] [] w) := by
  rw [← rv_blk_eq [49, 89, 103] 10]
  rfl
set_option maxRecDepth 100000 in
set_option maxHeartbeats 4000000 in
theorem ev_X5_kindFor (p : Nat) (n1 : Int32) (n2 : Int32) (w : rv_W) (hp : (rv_obj w p 4).isSome = true) : rv_EV 157 [.ref p, .int n1, .int n2] w = ((rv_ri (rv_EV 113 [.ref p, .int n1] w)).bind fun q1 => (bif rv_cnd .eq q1.1 0 then ((rv_ri (rv_EV 108 [.ref p, .int (-1000001)] q1.2)).bind fun q2 => some (some (.int q2.1), q2.2)) else ((rv_ri (rv_EV 107 [.long (Int32.toInt64 n2), .long (Int32.toInt64 0), .long (Int32.toInt64 40)] q1.2)).bind fun q3 => (bif rv_cnd .ne q3.1 0 then ((rv_ldFR q3.2 p 4 0).bind fun a4 => ((rv_ldI q3.2 a4 (54 + (4 * n1))).bind fun x5 => rv_GO rc_X5_kindFor 51 [some (.ref p), some (.int n1), some (.int n2), some (.int (54 + (4 * n1))), some (.int x5), some (.int 0), some (.int (-1)), some (.int 0), none] [] q3.2)) else ((rv_ri (rv_EV 108 [.ref p, .int (-1000001)] q3.2)).bind fun q6 => some (some (.int q6.1), q6.2)))))) := by
  have e : rv_EV 157 [.ref p, .int n1, .int n2] w = rv_GO rc_X5_kindFor 0 [some (.ref p), some (.int n1), some (.int n2), none, none, none, none, none, none] [] w := by
    show cond ((rv_obj w p 4).isSome && true) _ _ = _
    rw [hp]
    rfl
  rw [e, ← rv_blk_eq [51, 91] 29]
  rfl
set_option maxRecDepth 100000 in
set_option maxHeartbeats 4000000 in
theorem bk_X5_kindFor_51 (v0 : Nat) (v1 : Int32) (v2 : Int32) (v3 : Int32) (v4 : Int32) (v5 : Int32) (v6 : Int32) (v7 : Int32) (w : rv_W) : rv_GO rc_X5_kindFor 51 [some (.ref v0), some (.int v1), some (.int v2), some (.int v3), some (.int v4), some (.int v5), some (.int v6), some (.int v7), none] [] w = (bif rv_cnd .gt v7 6 then ((rv_ldFR w v0 4 0).bind fun a1 => ((rv_stI w a1 v3 v4).bind fun w2 => some (some (.int v5), w2))) else ((rv_ldFR w v0 4 0).bind fun a3 => ((rv_stI w a3 v3 v7).bind fun w4 => ((rv_ri (rv_EV 147 [.ref v0, .int v1, .int v2] w4)).bind fun q5 => ((rv_ri (rv_EV 116 [.int q5.1] q5.2)).bind fun q6 => (bif rv_cnd .le q6.1 v6 then rv_GO rc_X5_kindFor 91 [some (.ref v0), some (.int v1), some (.int v2), some (.int v3), some (.int v4), none, some (.int v6), some (.int v7), some (.int q6.1)] [.int v5] q6.2 else rv_GO rc_X5_kindFor 91 [some (.ref v0), some (.int v1), some (.int v2), some (.int v3), some (.int v4), none, some (.int v6), some (.int v7), some (.int q6.1)] [.int v7] q6.2)))))) := by
  rw [← rv_blk_eq [51, 91] 21]
  rfl
set_option maxRecDepth 100000 in
set_option maxHeartbeats 4000000 in
theorem bk_X5_kindFor_91 (v0 : Nat) (v1 : Int32) (v2 : Int32) (v3 : Int32) (v4 : Int32) (v6 : Int32) (v7 : Int32) (v8 : Int32) (s0 : Int32) (w : rv_W) : rv_GO rc_X5_kindFor 91 [some (.ref v0), some (.int v1), some (.int v2), some (.int v3), some (.int v4), none, some (.int v6), some (.int v7), some (.int v8)] [.int s0] w = (bif rv_cnd .le v8 v6 then rv_GO rc_X5_kindFor 51 [some (.ref v0), some (.int v1), some (.int v2), some (.int v3), some (.int v4), some (.int s0), some (.int v6), some (.int (v7 + 1)), none] [] w else rv_GO rc_X5_kindFor 51 [some (.ref v0), some (.int v1), some (.int v2), some (.int v3), some (.int v4), some (.int s0), some (.int v8), some (.int (v7 + 1)), none] [] w) := by
  rw [← rv_blk_eq [51, 91] 11]
  rfl
set_option maxRecDepth 100000 in
set_option maxHeartbeats 4000000 in
theorem ev_X5_coldest (p : Nat) (w : rv_W) (hp : (rv_obj w p 4).isSome = true) : rv_EV 158 [.ref p] w = ((rv_ldFR w p 4 0).bind fun a1 => ((rv_ldI w a1 4).bind fun x2 => rv_GO rc_X5_coldest 9 [some (.ref p), some (.int x2), some (.int 1)] [] w)) := by
  have e : rv_EV 158 [.ref p] w = rv_GO rc_X5_coldest 0 [some (.ref p), none, none] [] w := by
    show cond ((rv_obj w p 4).isSome && true) _ _ = _
    rw [hp]
    rfl
  rw [e, ← rv_blk_eq [9] 9]
  rfl
set_option maxRecDepth 100000 in
set_option maxHeartbeats 4000000 in
theorem bk_X5_coldest_9 (v0 : Nat) (v1 : Int32) (v2 : Int32) (w : rv_W) : rv_GO rc_X5_coldest 9 [some (.ref v0), some (.int v1), some (.int v2)] [] w = (bif rv_cnd .ge v2 10 then some (some (.int v1), w) else ((rv_ldFR w v0 4 0).bind fun a1 => ((rv_ldI w a1 (4 + v2)).bind fun x2 => (bif rv_cnd .ge x2 v1 then rv_GO rc_X5_coldest 9 [some (.ref v0), some (.int v1), some (.int (v2 + 1))] [] w else ((rv_ldFR w v0 4 0).bind fun a3 => ((rv_ldI w a3 (4 + v2)).bind fun x4 => rv_GO rc_X5_coldest 9 [some (.ref v0), some (.int x4), some (.int (v2 + 1))] [] w)))))) := by
  rw [← rv_blk_eq [9] 23]
  rfl
set_option maxRecDepth 100000 in
set_option maxHeartbeats 4000000 in
theorem ev_X5_freshFor (p : Nat) (n1 : Int32) (n2 : Int32) (w : rv_W) (hp : (rv_obj w p 4).isSome = true) : rv_EV 159 [.ref p, .int n1, .int n2] w = ((rv_ri (rv_EV 107 [.long (Int32.toInt64 n1), .long (Int32.toInt64 0), .long (Int32.toInt64 99)] w)).bind fun q1 => (bif rv_cnd .eq q1.1 0 then ((rv_ri (rv_EV 108 [.ref p, .int (-1000001)] q1.2)).bind fun q2 => some (some (.int q2.1), q2.2)) else ((rv_ri (rv_EV 107 [.long (Int32.toInt64 n2), .long (Int32.toInt64 0), .long (Int32.toInt64 40)] q1.2)).bind fun q3 => (bif rv_cnd .ne q3.1 0 then rv_GO rc_X5_freshFor 36 [some (.ref p), some (.int n1), some (.int n2), some (.int (-1)), some (.int 0)] [] q3.2 else ((rv_ri (rv_EV 108 [.ref p, .int (-1000001)] q3.2)).bind fun q4 => some (some (.int q4.1), q4.2)))))) := by
  have e : rv_EV 159 [.ref p, .int n1, .int n2] w = rv_GO rc_X5_freshFor 0 [some (.ref p), some (.int n1), some (.int n2), none, none] [] w := by
    show cond ((rv_obj w p 4).isSome && true) _ _ = _
    rw [hp]
    rfl
  rw [e, ← rv_blk_eq [36, 85] 18]
  rfl
set_option maxRecDepth 100000 in
set_option maxHeartbeats 4000000 in
theorem bk_X5_freshFor_36 (v0 : Nat) (v1 : Int32) (v2 : Int32) (v3 : Int32) (v4 : Int32) (w : rv_W) : rv_GO rc_X5_freshFor 36 [some (.ref v0), some (.int v1), some (.int v2), some (.int v3), some (.int v4)] [] w = (bif rv_cnd .gt v4 99 then ((rv_ri (rv_EV 115 [.ref v0, .int v3] w)).bind fun q1 => some (some (.int q1.1), q1.2)) else (bif rv_cnd .ge v3 0 then ((rv_ri (rv_EV 115 [.ref v0, .int v3] w)).bind fun q2 => some (some (.int q2.1), q2.2)) else ((rv_ldFR w v0 4 0).bind fun a3 => ((rv_ldFR w v0 4 3).bind fun a4 => ((rv_rv (rv_EV 110 [.ref a3, .ref a4] w)).bind fun q5 => ((rv_ldFR q5 v0 4 0).bind fun a6 => ((rv_stI q5 a6 2 v4).bind fun w7 => ((rv_rv (rv_EV 139 [.ref v0, .int v2] w7)).bind fun q8 => ((rv_ri (rv_EV 158 [.ref v0] q8)).bind fun q9 => (bif rv_cnd .lt q9.1 v1 then rv_GO rc_X5_freshFor 85 [some (.ref v0), some (.int v1), some (.int v2), none, some (.int v4)] [.int (-1)] q9.2 else rv_GO rc_X5_freshFor 85 [some (.ref v0), some (.int v1), some (.int v2), none, some (.int v4)] [.int v4] q9.2)))))))))) := by
  rw [← rv_blk_eq [36, 85] 26]
  rfl
set_option maxRecDepth 100000 in
set_option maxHeartbeats 4000000 in
theorem bk_X5_freshFor_85 (v0 : Nat) (v1 : Int32) (v2 : Int32) (v4 : Int32) (s0 : Int32) (w : rv_W) : rv_GO rc_X5_freshFor 85 [some (.ref v0), some (.int v1), some (.int v2), none, some (.int v4)] [.int s0] w = ((rv_ldFR w v0 4 3).bind fun a1 => ((rv_ldFR w v0 4 0).bind fun a2 => ((rv_rv (rv_EV 110 [.ref a1, .ref a2] w)).bind fun q3 => rv_GO rc_X5_freshFor 36 [some (.ref v0), some (.int v1), some (.int v2), some (.int s0), some (.int (v4 + 1))] [] q3))) := by
  rw [← rv_blk_eq [36, 85] 10]
  rfl
set_option maxRecDepth 100000 in
set_option maxHeartbeats 4000000 in
theorem ev_X5_isHidden (p : Nat) (n1 : Int32) (n2 : Int32) (n3 : Int32) (w : rv_W) (hp : (rv_obj w p 4).isSome = true) : rv_EV 160 [.ref p, .int n1, .int n2, .int n3] w = ((rv_ldFR w p 4 0).bind fun a1 => ((rv_ldFR w p 4 3).bind fun a2 => ((rv_rv (rv_EV 110 [.ref a1, .ref a2] w)).bind fun q3 => rv_GO rc_X5_isHidden 20 [some (.ref p), some (.int n1), some (.int n2), some (.int n3), none, none, some (.int 1), some (.int 0), none] [] q3))) := by
  have e : rv_EV 160 [.ref p, .int n1, .int n2, .int n3] w = rv_GO rc_X5_isHidden 0 [some (.ref p), some (.int n1), some (.int n2), some (.int n3), none, none, none, none, none] [] w := by
    show cond ((rv_obj w p 4).isSome && true) _ _ = _
    rw [hp]
    rfl
  rw [e, ← rv_blk_eq [20, 41] 13]
  rfl
set_option maxRecDepth 100000 in
set_option maxHeartbeats 4000000 in
theorem bk_X5_isHidden_20 (v0 : Nat) (v1 : Int32) (v2 : Int32) (v3 : Int32) (v6 : Int32) (v7 : Int32) (w : rv_W) : rv_GO rc_X5_isHidden 20 [some (.ref v0), some (.int v1), some (.int v2), some (.int v3), none, none, some (.int v6), some (.int v7), none] [] w = (bif rv_cnd .ge v7 v2 then ((rv_ldFR w v0 4 3).bind fun a1 => ((rv_ldFR w v0 4 0).bind fun a2 => ((rv_rv (rv_EV 110 [.ref a1, .ref a2] w)).bind fun q3 => (bif rv_bz v6 then some (some (.int v6), q3) else none)))) else (bif rv_cnd .eq v6 0 then ((rv_ldFR w v0 4 3).bind fun a4 => ((rv_ldFR w v0 4 0).bind fun a5 => ((rv_rv (rv_EV 110 [.ref a4, .ref a5] w)).bind fun q6 => (bif rv_bz v6 then some (some (.int v6), q6) else none)))) else ((rv_rl (rv_EV 138 [.ref v0, .int v3] w)).bind fun q7 => rv_GO rc_X5_isHidden 41 [some (.ref v0), some (.int v1), some (.int v2), some (.int v3), some (.long q7.1), none, some (.int v6), some (.int v7), some (.int 0)] [] q7.2))) := by
  rw [← rv_blk_eq [20, 41] 13]
  rfl
set_option maxRecDepth 100000 in
set_option maxHeartbeats 4000000 in
theorem bk_X5_isHidden_41 (v0 : Nat) (v1 : Int32) (v2 : Int32) (v3 : Int32) (v4 : Int64) (v6 : Int32) (v7 : Int32) (v8 : Int32) (w : rv_W) : rv_GO rc_X5_isHidden 41 [some (.ref v0), some (.int v1), some (.int v2), some (.int v3), some (.long v4), none, some (.int v6), some (.int v7), some (.int v8)] [] w = (bif rv_cnd .ge v8 8 then rv_GO rc_X5_isHidden 20 [some (.ref v0), some (.int v1), some (.int v2), some (.int v3), none, none, some (.int v6), some (.int (v7 + 1)), none] [] w else (bif rv_cnd .ne (lg_cmp ((v4 >>> (Int32.toInt64 ((4 * v8) + v1) &&& 63)) &&& (Int32.toInt64 1)) (Int32.toInt64 0)) 0 then rv_GO rc_X5_isHidden 41 [some (.ref v0), some (.int v1), some (.int v2), some (.int v3), some (.long v4), none, some (.int (v6 &&& 0)), some (.int v7), some (.int (v8 + 1))] [] w else rv_GO rc_X5_isHidden 41 [some (.ref v0), some (.int v1), some (.int v2), some (.int v3), some (.long v4), none, some (.int (v6 &&& 1)), some (.int v7), some (.int (v8 + 1))] [] w)) := by
  rw [← rv_blk_eq [20, 41] 24]
  rfl
set_option maxRecDepth 100000 in
set_option maxHeartbeats 4000000 in
theorem ev_X5_hides (p : Nat) (n1 : Int32) (n2 : Int32) (n3 : Int32) (n4 : Int32) (w : rv_W) (hp : (rv_obj w p 4).isSome = true) : rv_EV 161 [.ref p, .int n1, .int n2, .int n3, .int n4] w = ((rv_ri (rv_EV 111 [.int n1] w)).bind fun q1 => (bif rv_cnd .eq q1.1 0 then ((rv_ri (rv_EV 108 [.ref p, .int (-1000001)] q1.2)).bind fun q2 => some (some (.int q2.1), q2.2)) else ((rv_ri (rv_EV 112 [.int n2] q1.2)).bind fun q3 => (bif rv_cnd .eq q3.1 0 then ((rv_ri (rv_EV 108 [.ref p, .int (-1000001)] q3.2)).bind fun q4 => some (some (.int q4.1), q4.2)) else ((rv_ri (rv_EV 112 [.int n3] q3.2)).bind fun q5 => (bif rv_cnd .eq q5.1 0 then ((rv_ri (rv_EV 108 [.ref p, .int (-1000001)] q5.2)).bind fun q6 => some (some (.int q6.1), q6.2)) else (bif rv_cnd .eq n2 n3 then ((rv_ri (rv_EV 108 [.ref p, .int (-1000001)] q5.2)).bind fun q7 => some (some (.int q7.1), q7.2)) else ((rv_ri (rv_EV 107 [.long (Int32.toInt64 n4), .long (Int32.toInt64 0), .long (Int32.toInt64 20)] q5.2)).bind fun q8 => (bif rv_cnd .ne q8.1 0 then ((rv_ri (rv_EV 118 [.int n1, .int n2] q8.2)).bind fun q9 => ((rv_ldFR q9.2 p 4 0).bind fun a10 => ((rv_ldI q9.2 a10 q9.1).bind fun x11 => rv_GO rc_X5_hides 62 [some (.ref p), none, none, some (.int n3), some (.int n4), some (.int q9.1), some (.int x11), none, none] [] q9.2))) else ((rv_ri (rv_EV 108 [.ref p, .int (-1000001)] q8.2)).bind fun q12 => some (some (.int q12.1), q12.2))))))))))) := by
  have e : rv_EV 161 [.ref p, .int n1, .int n2, .int n3, .int n4] w = rv_GO rc_X5_hides 0 [some (.ref p), some (.int n1), some (.int n2), some (.int n3), some (.int n4), none, none, none, none] [] w := by
    show cond ((rv_obj w p 4).isSome && true) _ _ = _
    rw [hp]
    rfl
  rw [e, ← rv_blk_eq [62, 101, 131] 29]
  rfl
set_option maxRecDepth 100000 in
set_option maxHeartbeats 4000000 in
theorem bk_X5_hides_62 (v0 : Nat) (v3 : Int32) (v4 : Int32) (v5 : Int32) (v6 : Int32) (w : rv_W) : rv_GO rc_X5_hides 62 [some (.ref v0), none, none, some (.int v3), some (.int v4), some (.int v5), some (.int v6), none, none] [] w = ((rv_ldFR w v0 4 0).bind fun a1 => ((rv_ldI w a1 v5).bind fun x2 => (bif rv_cnd .gt x2 9999 then rv_GO rc_X5_hides 101 [some (.ref v0), none, none, none, none, some (.int v5), some (.int v6), none, none] [] w else ((rv_ri (rv_EV 160 [.ref v0, .int v3, .int v4, .int 0] w)).bind fun q3 => (bif rv_cnd .ne q3.1 0 then rv_GO rc_X5_hides 101 [some (.ref v0), none, none, none, none, some (.int v5), some (.int v6), none, none] [] q3.2 else ((rv_ldFR q3.2 v0 4 0).bind fun a4 => ((rv_ldI q3.2 a4 v5).bind fun x5 => ((rv_stI q3.2 a4 v5 (x5 + 10)).bind fun w6 => rv_GO rc_X5_hides 62 [some (.ref v0), none, none, some (.int v3), some (.int v4), some (.int v5), some (.int v6), none, none] [] w6)))))))) := by
  rw [← rv_blk_eq [62, 101, 131] 23]
  rfl
set_option maxRecDepth 100000 in
set_option maxHeartbeats 4000000 in
theorem bk_X5_hides_101 (v0 : Nat) (v5 : Int32) (v6 : Int32) (w : rv_W) : rv_GO rc_X5_hides 101 [some (.ref v0), none, none, none, none, some (.int v5), some (.int v6), none, none] [] w = ((rv_ldFR w v0 4 0).bind fun a1 => ((rv_ldI w a1 v5).bind fun x2 => ((rv_ldFR w v0 4 0).bind fun a3 => ((rv_ldI w a3 v5).bind fun x4 => (bif rv_cnd .gt x4 9999 then rv_GO rc_X5_hides 131 [some (.ref v0), none, none, none, none, some (.int v5), some (.int v6), some (.int (x2 - v6)), none] [.int 0] w else rv_GO rc_X5_hides 131 [some (.ref v0), none, none, none, none, some (.int v5), some (.int v6), some (.int (x2 - v6)), none] [.int 1] w))))) := by
  rw [← rv_blk_eq [62, 101, 131] 17]
  rfl
set_option maxRecDepth 100000 in
set_option maxHeartbeats 4000000 in
theorem bk_X5_hides_131 (v0 : Nat) (v5 : Int32) (v6 : Int32) (v7 : Int32) (s0 : Int32) (w : rv_W) : rv_GO rc_X5_hides 131 [some (.ref v0), none, none, none, none, some (.int v5), some (.int v6), some (.int v7), none] [.int s0] w = ((rv_ldFR w v0 4 0).bind fun a1 => ((rv_stI w a1 v5 v6).bind fun w2 => (bif rv_cnd .eq s0 0 then ((rv_ri (rv_EV 108 [.ref v0, .int (-1000004)] w2)).bind fun q3 => some (some (.int q3.1), q3.2)) else some (some (.int v7), w2)))) := by
  rw [← rv_blk_eq [62, 101, 131] 13]
  rfl
set_option maxRecDepth 100000 in
set_option maxHeartbeats 4000000 in
theorem ev_X5_leave (p : Nat) (n1 : Int32) (n2 : Int32) (w : rv_W) (hp : (rv_obj w p 4).isSome = true) : rv_EV 162 [.ref p, .int n1, .int n2] w = ((rv_ri (rv_EV 112 [.int n1] w)).bind fun q1 => (bif rv_cnd .eq q1.1 0 then ((rv_ri (rv_EV 108 [.ref p, .int (-1000001)] q1.2)).bind fun q2 => some (some (.int q2.1), q2.2)) else ((rv_ri (rv_EV 107 [.long (Int32.toInt64 n2), .long (Int32.toInt64 0), .long (Int32.toInt64 20)] q1.2)).bind fun q3 => (bif rv_cnd .ne q3.1 0 then rv_GO rc_X5_leave 31 [some (.ref p), some (.int n1), some (.int n2), some (.int (-1)), some (.int 0)] [] q3.2 else ((rv_ri (rv_EV 108 [.ref p, .int (-1000001)] q3.2)).bind fun q4 => some (some (.int q4.1), q4.2)))))) := by
  have e : rv_EV 162 [.ref p, .int n1, .int n2] w = rv_GO rc_X5_leave 0 [some (.ref p), some (.int n1), some (.int n2), none, none] [] w := by
    show cond ((rv_obj w p 4).isSome && true) _ _ = _
    rw [hp]
    rfl
  rw [e, ← rv_blk_eq [31, 60] 15]
  rfl
set_option maxRecDepth 100000 in
set_option maxHeartbeats 4000000 in
theorem bk_X5_leave_31 (v0 : Nat) (v1 : Int32) (v2 : Int32) (v3 : Int32) (v4 : Int32) (w : rv_W) : rv_GO rc_X5_leave 31 [some (.ref v0), some (.int v1), some (.int v2), some (.int v3), some (.int v4)] [] w = ((rv_ldFR w v0 4 0).bind fun a1 => ((rv_ldI w a1 0).bind fun x2 => (bif rv_cnd .ge v4 (1 <<< (x2 &&& 31)) then some (some (.int v3), w) else (bif rv_cnd .lt v3 0 then rv_GO rc_X5_leave 60 [some (.ref v0), some (.int v1), some (.int v2), some (.int v3), some (.int v4)] [] w else ((rv_ri (rv_EV 116 [.int v4] w)).bind fun q3 => ((rv_ri (rv_EV 116 [.int v3] q3.2)).bind fun q4 => (bif rv_cnd .ge q3.1 q4.1 then rv_GO rc_X5_leave 31 [some (.ref v0), some (.int v1), some (.int v2), some (.int v3), some (.int (v4 + 1))] [] q4.2 else rv_GO rc_X5_leave 60 [some (.ref v0), some (.int v1), some (.int v2), some (.int v3), some (.int v4)] [] q4.2))))))) := by
  rw [← rv_blk_eq [31, 60] 21]
  rfl
set_option maxRecDepth 100000 in
set_option maxHeartbeats 4000000 in
theorem bk_X5_leave_60 (v0 : Nat) (v1 : Int32) (v2 : Int32) (v3 : Int32) (v4 : Int32) (w : rv_W) : rv_GO rc_X5_leave 60 [some (.ref v0), some (.int v1), some (.int v2), some (.int v3), some (.int v4)] [] w = ((rv_ri (rv_EV 160 [.ref v0, .int v1, .int v2, .int v4] w)).bind fun q1 => (bif rv_cnd .eq q1.1 0 then rv_GO rc_X5_leave 31 [some (.ref v0), some (.int v1), some (.int v2), some (.int v3), some (.int (v4 + 1))] [] q1.2 else rv_GO rc_X5_leave 31 [some (.ref v0), some (.int v1), some (.int v2), some (.int v4), some (.int (v4 + 1))] [] q1.2)) := by
  rw [← rv_blk_eq [31, 60] 13]
  rfl
set_option maxRecDepth 100000 in
set_option maxHeartbeats 4000000 in
theorem ev_X5_plugFor (p : Nat) (n1 : Int32) (n2 : Int32) (w : rv_W) (hp : (rv_obj w p 4).isSome = true) : rv_EV 163 [.ref p, .int n1, .int n2] w = ((rv_ri (rv_EV 112 [.int n1] w)).bind fun q1 => (bif rv_cnd .eq q1.1 0 then ((rv_ri (rv_EV 108 [.ref p, .int (-1000001)] q1.2)).bind fun q2 => some (some (.int q2.1), q2.2)) else ((rv_ri (rv_EV 107 [.long (Int32.toInt64 n2), .long (Int32.toInt64 0), .long (Int32.toInt64 40)] q1.2)).bind fun q3 => (bif rv_cnd .ne q3.1 0 then rv_GO rc_X5_plugFor 35 [some (.ref p), some (.int n1), some (.int n2), some (.int 0), some (.int 9), some (.int 0), none, none, none] [] q3.2 else ((rv_ri (rv_EV 108 [.ref p, .int (-1000001)] q3.2)).bind fun q4 => some (some (.int q4.1), q4.2)))))) := by
  have e : rv_EV 163 [.ref p, .int n1, .int n2] w = rv_GO rc_X5_plugFor 0 [some (.ref p), some (.int n1), some (.int n2), none, none, none, none, none, none] [] w := by
    show cond ((rv_obj w p 4).isSome && true) _ _ = _
    rw [hp]
    rfl
  rw [e, ← rv_blk_eq [35, 72, 129] 17]
  rfl
set_option maxRecDepth 100000 in
set_option maxHeartbeats 4000000 in
theorem bk_X5_plugFor_35 (v0 : Nat) (v1 : Int32) (v2 : Int32) (v3 : Int32) (v4 : Int32) (v5 : Int32) (w : rv_W) : rv_GO rc_X5_plugFor 35 [some (.ref v0), some (.int v1), some (.int v2), some (.int v3), some (.int v4), some (.int v5), none, none, none] [] w = (bif rv_cnd .ge v5 10 then some (some (.int v3), w) else ((rv_ldFR w v0 4 0).bind fun a1 => ((rv_ldFR w v0 4 3).bind fun a2 => ((rv_rv (rv_EV 110 [.ref a1, .ref a2] w)).bind fun q3 => ((rv_ri (rv_EV 124 [.ref v0, .int v5] q3)).bind fun q4 => ((rv_rv (rv_EV 139 [.ref v0, .int v2] q4.2)).bind fun q5 => rv_GO rc_X5_plugFor 72 [some (.ref v0), some (.int v1), some (.int v2), some (.int v3), some (.int v4), some (.int v5), none, some (.int 0), some (.int 0)] [] q5)))))) := by
  rw [← rv_blk_eq [35, 72, 129] 21]
  rfl
set_option maxRecDepth 100000 in
set_option maxHeartbeats 4000000 in
theorem bk_X5_plugFor_72 (v0 : Nat) (v1 : Int32) (v2 : Int32) (v3 : Int32) (v4 : Int32) (v5 : Int32) (v7 : Int32) (v8 : Int32) (w : rv_W) : rv_GO rc_X5_plugFor 72 [some (.ref v0), some (.int v1), some (.int v2), some (.int v3), some (.int v4), some (.int v5), none, some (.int v7), some (.int v8)] [] w = ((rv_ldFR w v0 4 0).bind fun a1 => ((rv_ldI w a1 0).bind fun x2 => (bif rv_cnd .ge v8 x2 then ((rv_ldFR w v0 4 3).bind fun a3 => ((rv_ldFR w v0 4 0).bind fun a4 => ((rv_rv (rv_EV 110 [.ref a3, .ref a4] w)).bind fun q5 => (bif rv_cnd .ge v7 v4 then rv_GO rc_X5_plugFor 129 [some (.ref v0), some (.int v1), some (.int v2), none, some (.int v4), some (.int v5), none, some (.int v7), none] [.int v3] q5 else rv_GO rc_X5_plugFor 129 [some (.ref v0), some (.int v1), some (.int v2), none, some (.int v4), some (.int v5), none, some (.int v7), none] [.int v5] q5)))) else ((rv_ri (rv_EV 114 [.ref v0, .int v8, .int 3] w)).bind fun q6 => rv_GO rc_X5_plugFor 72 [some (.ref v0), some (.int v1), some (.int v2), some (.int v3), some (.int v4), some (.int v5), none, some (.int (v7 + ((q6.1 >>> (v1 &&& 31)) &&& 1))), some (.int (v8 + 1))] [] q6.2)))) := by
  rw [← rv_blk_eq [35, 72, 129] 21]
  rfl
set_option maxRecDepth 100000 in
set_option maxHeartbeats 4000000 in
theorem bk_X5_plugFor_129 (v0 : Nat) (v1 : Int32) (v2 : Int32) (v4 : Int32) (v5 : Int32) (v7 : Int32) (s0 : Int32) (w : rv_W) : rv_GO rc_X5_plugFor 129 [some (.ref v0), some (.int v1), some (.int v2), none, some (.int v4), some (.int v5), none, some (.int v7), none] [.int s0] w = (bif rv_cnd .ge v7 v4 then rv_GO rc_X5_plugFor 35 [some (.ref v0), some (.int v1), some (.int v2), some (.int s0), some (.int v4), some (.int (v5 + 1)), none, none, none] [] w else rv_GO rc_X5_plugFor 35 [some (.ref v0), some (.int v1), some (.int v2), some (.int s0), some (.int v7), some (.int (v5 + 1)), none, none, none] [] w) := by
  rw [← rv_blk_eq [35, 72, 129] 11]
  rfl
set_option maxRecDepth 100000 in
set_option maxHeartbeats 4000000 in
theorem ev_X5_isTold (p : Nat) (n1 : Int32) (w : rv_W) (hp : (rv_obj w p 4).isSome = true) : rv_EV 164 [.ref p, .int n1] w = ((rv_ldFR w p 4 0).bind fun a1 => ((rv_ldFR w p 4 3).bind fun a2 => ((rv_rv (rv_EV 110 [.ref a1, .ref a2] w)).bind fun q3 => rv_GO rc_X5_isTold 15 [some (.ref p), some (.int n1), some (.int 1), some (.int 0), none] [] q3))) := by
  have e : rv_EV 164 [.ref p, .int n1] w = rv_GO rc_X5_isTold 0 [some (.ref p), some (.int n1), none, none, none] [] w := by
    show cond ((rv_obj w p 4).isSome && true) _ _ = _
    rw [hp]
    rfl
  rw [e, ← rv_blk_eq [15] 11]
  rfl
set_option maxRecDepth 100000 in
set_option maxHeartbeats 4000000 in
theorem bk_X5_isTold_15 (v0 : Nat) (v1 : Int32) (v2 : Int32) (v3 : Int32) (w : rv_W) : rv_GO rc_X5_isTold 15 [some (.ref v0), some (.int v1), some (.int v2), some (.int v3), none] [] w = ((rv_ldFR w v0 4 9).bind fun a1 => ((rv_ldI w a1 v1).bind fun x2 => (bif rv_cnd .ge v3 x2 then ((rv_ldFR w v0 4 3).bind fun a3 => ((rv_ldFR w v0 4 0).bind fun a4 => ((rv_rv (rv_EV 110 [.ref a3, .ref a4] w)).bind fun q5 => (bif rv_bz v2 then some (some (.int v2), q5) else none)))) else (bif rv_cnd .eq v2 0 then ((rv_ldFR w v0 4 3).bind fun a6 => ((rv_ldFR w v0 4 0).bind fun a7 => ((rv_rv (rv_EV 110 [.ref a6, .ref a7] w)).bind fun q8 => (bif rv_bz v2 then some (some (.int v2), q8) else none)))) else ((rv_ldFR w v0 4 10).bind fun a9 => ((rv_ldI w a9 ((40 * v1) + v3)).bind fun x10 => (bif rv_cnd .eq x10 (-1) then ((rv_rv (rv_EV 139 [.ref v0, .int 1] w)).bind fun q11 => rv_GO rc_X5_isTold 15 [some (.ref v0), some (.int v1), some (.int 1), some (.int (v3 + 1)), none] [] q11) else ((rv_ldFR w v0 4 0).bind fun a12 => ((rv_ri (rv_EV 118 [.int 9, .int 0] w)).bind fun q13 => ((rv_ldI q13.2 a12 q13.1).bind fun x14 => (bif rv_cnd .ne x10 x14 then ((rv_rv (rv_EV 139 [.ref v0, .int 1] q13.2)).bind fun q15 => rv_GO rc_X5_isTold 15 [some (.ref v0), some (.int v1), some (.int 0), some (.int (v3 + 1)), none] [] q15) else ((rv_rv (rv_EV 139 [.ref v0, .int 1] q13.2)).bind fun q16 => rv_GO rc_X5_isTold 15 [some (.ref v0), some (.int v1), some (.int 1), some (.int (v3 + 1)), none] [] q16)))))))))))) := by
  rw [← rv_blk_eq [15] 38]
  rfl
set_option maxRecDepth 100000 in
set_option maxHeartbeats 4000000 in
theorem ev_X5_couldBe (p : Nat) (n1 : Int32) (n2 : Int32) (n3 : Int32) (w : rv_W) (hp : (rv_obj w p 4).isSome = true) : rv_EV 165 [.ref p, .int n1, .int n2, .int n3] w = ((rv_ldFR w p 4 0).bind fun a1 => ((rv_ldI w a1 ((54 + (4 * n2)) + n3)).bind fun x2 => rv_GO rc_X5_couldBe 25 [some (.ref p), some (.int n1), none, some (.int n3), some (.int ((54 + (4 * n2)) + n3)), some (.int x2), some (.int 0), some (.int 0)] [] w)) := by
  have e : rv_EV 165 [.ref p, .int n1, .int n2, .int n3] w = rv_GO rc_X5_couldBe 0 [some (.ref p), some (.int n1), some (.int n2), some (.int n3), none, none, none, none] [] w := by
    show cond ((rv_obj w p 4).isSome && true) _ _ = _
    rw [hp]
    rfl
  rw [e, ← rv_blk_eq [25] 19]
  rfl
set_option maxRecDepth 100000 in
set_option maxHeartbeats 4000000 in
theorem bk_X5_couldBe_25 (v0 : Nat) (v1 : Int32) (v3 : Int32) (v4 : Int32) (v5 : Int32) (v6 : Int32) (v7 : Int32) (w : rv_W) : rv_GO rc_X5_couldBe 25 [some (.ref v0), some (.int v1), none, some (.int v3), some (.int v4), some (.int v5), some (.int v6), some (.int v7)] [] w = ((rv_ri (rv_EV 133 [.int v3] w)).bind fun q1 => (bif rv_cnd .gt v7 q1.1 then ((rv_ldFR q1.2 v0 4 0).bind fun a2 => ((rv_stI q1.2 a2 v4 v5).bind fun w3 => some (some (.int v6), w3))) else ((rv_ldFR q1.2 v0 4 0).bind fun a4 => ((rv_stI q1.2 a4 v4 v7).bind fun w5 => ((rv_ri (rv_EV 164 [.ref v0, .int v1] w5)).bind fun q6 => (bif rv_cnd .eq q6.1 0 then rv_GO rc_X5_couldBe 25 [some (.ref v0), some (.int v1), none, some (.int v3), some (.int v4), some (.int v5), some (.int (v6 ||| 0)), some (.int (v7 + 1))] [] q6.2 else rv_GO rc_X5_couldBe 25 [some (.ref v0), some (.int v1), none, some (.int v3), some (.int v4), some (.int v5), some (.int (v6 ||| (1 <<< (v7 &&& 31)))), some (.int (v7 + 1))] [] q6.2)))))) := by
  rw [← rv_blk_eq [25] 24]
  rfl
set_option maxRecDepth 100000 in
set_option maxHeartbeats 4000000 in
theorem ev_X5_wantsFor (p : Nat) (n1 : Int32) (n2 : Int32) (w : rv_W) (hp : (rv_obj w p 4).isSome = true) : rv_EV 166 [.ref p, .int n1, .int n2] w = ((rv_ri (rv_EV 201 [.ref p, .int n1] w)).bind fun q1 => (bif rv_cnd .eq q1.1 0 then ((rv_ri (rv_EV 113 [.ref p, .int n2] q1.2)).bind fun q2 => (bif rv_cnd .eq q2.1 0 then some (some (.int (-1000001)), q2.2) else some (some (.int 0), q2.2))) else ((rv_ri (rv_EV 201 [.ref p, .int n1] q1.2)).bind fun q3 => some (some (.int q3.1), q3.2)))) := by
  have e : rv_EV 166 [.ref p, .int n1, .int n2] w = rv_GO rc_X5_wantsFor 0 [some (.ref p), some (.int n1), some (.int n2)] [] w := by
    show cond ((rv_obj w p 4).isSome && true) _ _ = _
    rw [hp]
    rfl
  rw [e, ← rv_blk_eq [] 12]
  rfl
set_option maxRecDepth 100000 in
set_option maxHeartbeats 4000000 in
theorem ev_X5_fits (p : Nat) (n1 : Int32) (n2 : Int32) (w : rv_W) (hp : (rv_obj w p 4).isSome = true) : rv_EV 167 [.ref p, .int n1, .int n2] w = ((rv_ri (rv_EV 166 [.ref p, .int n1, .int n2] w)).bind fun q1 => (bif rv_cnd .eq q1.1 0 then ((rv_ri (rv_EV 165 [.ref p, .int n1, .int n2, .int 2] q1.2)).bind fun q2 => some (some (.int q2.1), q2.2)) else ((rv_ri (rv_EV 108 [.ref p, .int q1.1] q1.2)).bind fun q3 => some (some (.int q3.1), q3.2)))) := by
  have e : rv_EV 167 [.ref p, .int n1, .int n2] w = rv_GO rc_X5_fits 0 [some (.ref p), some (.int n1), some (.int n2), none] [] w := by
    show cond ((rv_obj w p 4).isSome && true) _ _ = _
    rw [hp]
    rfl
  rw [e, ← rv_blk_eq [] 14]
  rfl
set_option maxRecDepth 100000 in
set_option maxHeartbeats 4000000 in
theorem ev_X5_kinds (p : Nat) (n1 : Int32) (n2 : Int32) (w : rv_W) (hp : (rv_obj w p 4).isSome = true) : rv_EV 168 [.ref p, .int n1, .int n2] w = ((rv_ri (rv_EV 166 [.ref p, .int n1, .int n2] w)).bind fun q1 => (bif rv_cnd .eq q1.1 0 then ((rv_ri (rv_EV 165 [.ref p, .int n1, .int n2, .int 0] q1.2)).bind fun q2 => some (some (.int q2.1), q2.2)) else ((rv_ri (rv_EV 108 [.ref p, .int q1.1] q1.2)).bind fun q3 => some (some (.int q3.1), q3.2)))) := by
  have e : rv_EV 168 [.ref p, .int n1, .int n2] w = rv_GO rc_X5_kinds 0 [some (.ref p), some (.int n1), some (.int n2), none] [] w := by
    show cond ((rv_obj w p 4).isSome && true) _ _ = _
    rw [hp]
    rfl
  rw [e, ← rv_blk_eq [] 14]
  rfl
set_option maxRecDepth 100000 in
set_option maxHeartbeats 4000000 in
theorem ev_X5_plugs (p : Nat) (n1 : Int32) (w : rv_W) (hp : (rv_obj w p 4).isSome = true) : rv_EV 169 [.ref p, .int n1] w = ((rv_ri (rv_EV 107 [.long (Int32.toInt64 n1), .long (Int32.toInt64 1), .long (Int32.toInt64 20)] w)).bind fun q1 => (bif rv_cnd .ne q1.1 0 then ((rv_ldFR q1.2 p 4 0).bind fun a2 => ((rv_ldI q1.2 a2 1).bind fun x3 => (bif rv_cnd .le (x3 + n1) 99999 then rv_GO rc_X5_plugs 41 [some (.ref p), some (.int n1), some (.int 0), none] [] q1.2 else ((rv_ri (rv_EV 108 [.ref p, .int (-1000005)] q1.2)).bind fun q4 => some (some (.int q4.1), q4.2))))) else ((rv_ri (rv_EV 108 [.ref p, .int (-1000001)] q1.2)).bind fun q5 => some (some (.int q5.1), q5.2)))) := by
  have e : rv_EV 169 [.ref p, .int n1] w = rv_GO rc_X5_plugs 0 [some (.ref p), some (.int n1), none, none] [] w := by
    show cond ((rv_obj w p 4).isSome && true) _ _ = _
    rw [hp]
    rfl
  rw [e, ← rv_blk_eq [41] 19]
  rfl
set_option maxRecDepth 100000 in
set_option maxHeartbeats 4000000 in
theorem bk_X5_plugs_41 (v0 : Nat) (v1 : Int32) (v2 : Int32) (w : rv_W) : rv_GO rc_X5_plugs 41 [some (.ref v0), some (.int v1), some (.int v2), none] [] w = (bif rv_cnd .ge v2 v1 then ((rv_ri (rv_EV 141 [.ref v0, .int 4, .int 10] w)).bind fun q1 => some (some (.int q1.1), q1.2)) else ((rv_ldFR w v0 4 0).bind fun a2 => ((rv_ldFR w v0 4 0).bind fun a3 => ((rv_ldI w a3 3).bind fun x4 => ((rv_stI w a2 3 ((x4 * 1103515245) + 12345)).bind fun w5 => ((rv_ldFR w5 v0 4 0).bind fun a6 => ((rv_ldI w5 a6 3).bind fun x7 => (bif rv_eq 10 0 then none else ((rv_ri (rv_EV 124 [.ref v0, .int ((Int32.toUInt32 x7 >>> (Int32.toUInt32 8 &&& Int32.toUInt32 31)).toInt32 - (Int32.toUInt32 x7 >>> (Int32.toUInt32 8 &&& Int32.toUInt32 31)).toInt32 / 10 * 10)] w5)).bind fun q8 => ((rv_rv (rv_EV 139 [.ref v0, .int 1] q8.2)).bind fun q9 => rv_GO rc_X5_plugs 41 [some (.ref v0), some (.int v1), some (.int (v2 + 1)), none] [] q9)))))))))) := by
  rw [← rv_blk_eq [41] 33]
  rfl
set_option maxRecDepth 100000 in
set_option maxHeartbeats 4000000 in
theorem ev_X5_odds (p : Nat) (n1 : Int32) (n2 : Int32) (w : rv_W) (hp : (rv_obj w p 4).isSome = true) : rv_EV 170 [.ref p, .int n1, .int n2] w = ((rv_ri (rv_EV 107 [.long (Int32.toInt64 n1), .long (Int32.toInt64 0), .long (Int32.toInt64 18)] w)).bind fun q1 => (bif rv_cnd .eq q1.1 0 then ((rv_ri (rv_EV 108 [.ref p, .int (-1000001)] q1.2)).bind fun q2 => some (some (.long (Int32.toInt64 q2.1)), q2.2)) else ((rv_ri (rv_EV 107 [.long (Int32.toInt64 n2), .long (Int32.toInt64 0), .long (Int32.toInt64 1)] q1.2)).bind fun q3 => (bif rv_cnd .ne q3.1 0 then rv_GO rc_X5_odds 35 [some (.ref p), some (.int n1), some (.int n2), some (.int 0), some (.int 0), none, none, none, none, none, none, none, none, none] [] q3.2 else ((rv_ri (rv_EV 108 [.ref p, .int (-1000001)] q3.2)).bind fun q4 => some (some (.long (Int32.toInt64 q4.1)), q4.2)))))) := by
  have e : rv_EV 170 [.ref p, .int n1, .int n2] w = rv_GO rc_X5_odds 0 [some (.ref p), some (.int n1), some (.int n2), none, none, none, none, none, none, none, none, none, none, none] [] w := by
    show cond ((rv_obj w p 4).isSome && true) _ _ = _
    rw [hp]
    rfl
  rw [e, ← rv_blk_eq [35, 74, 109] 18]
  rfl
set_option maxRecDepth 100000 in
set_option maxHeartbeats 4000000 in
theorem bk_X5_odds_35 (v0 : Nat) (v1 : Int32) (v2 : Int32) (v3 : Int32) (v4 : Int32) (w : rv_W) : rv_GO rc_X5_odds 35 [some (.ref v0), some (.int v1), some (.int v2), some (.int v3), some (.int v4), none, none, none, none, none, none, none, none, none] [] w = (bif rv_cnd .ge v4 10 then rv_GO rc_X5_odds 74 [none, some (.int v1), some (.int v2), some (.int v3), some (.long (Int32.toInt64 1)), none, some (.long (Int32.toInt64 1)), none, some (.int 0), none, none, none, none, none] [] w else ((rv_ri (rv_EV 121 [.ref v0, .int v4] w)).bind fun q1 => (bif rv_cnd .ne q1.1 0 then rv_GO rc_X5_odds 35 [some (.ref v0), some (.int v1), some (.int v2), some (.int (v3 + 0)), some (.int (v4 + 1)), none, none, none, none, none, none, none, none, none] [] q1.2 else rv_GO rc_X5_odds 35 [some (.ref v0), some (.int v1), some (.int v2), some (.int (v3 + 1)), some (.int (v4 + 1)), none, none, none, none, none, none, none, none, none] [] q1.2))) := by
  rw [← rv_blk_eq [35, 74, 109] 16]
  rfl
set_option maxRecDepth 100000 in
set_option maxHeartbeats 4000000 in
theorem bk_X5_odds_74 (v1 : Int32) (v2 : Int32) (v3 : Int32) (v4 : Int64) (v6 : Int64) (v8 : Int32) (w : rv_W) : rv_GO rc_X5_odds 74 [none, some (.int v1), some (.int v2), some (.int v3), some (.long v4), none, some (.long v6), none, some (.int v8), none, none, none, none, none] [] w = (bif rv_cnd .ge v8 v1 then rv_GO rc_X5_odds 109 [none, none, some (.int v2), none, some (.long v4), none, some (.long v6), none, some (.long v6), none, some (.long v4), none, none, none] [] w else rv_GO rc_X5_odds 74 [none, some (.int v1), some (.int v2), some (.int v3), some (.long (v4 * (Int32.toInt64 v3))), none, some (.long (v6 * (Int32.toInt64 10))), none, some (.int (v8 + 1)), none, none, none, none, none] [] w) := by
  rw [← rv_blk_eq [35, 74, 109] 16]
  rfl
set_option maxRecDepth 100000 in
set_option maxHeartbeats 4000000 in
theorem bk_X5_odds_109 (v2 : Int32) (v4 : Int64) (v6 : Int64) (v8 : Int64) (v10 : Int64) (w : rv_W) : rv_GO rc_X5_odds 109 [none, none, some (.int v2), none, some (.long v4), none, some (.long v6), none, some (.long v8), none, some (.long v10), none, none, none] [] w = (bif rv_cnd .eq (lg_cmp v10 (Int32.toInt64 0)) 0 then (bif rv_cnd .ne v2 0 then (bif rv_eqL v8 0 then none else some (some (.long (v6 / v8)), w)) else (bif rv_eqL v8 0 then none else some (some (.long (v4 / v8)), w))) else (bif rv_eqL v10 0 then none else rv_GO rc_X5_odds 109 [none, none, some (.int v2), none, some (.long v4), none, some (.long v6), none, some (.long v10), none, some (.long (v8 - v8 / v10 * v10)), none, none, none] [] w)) := by
  rw [← rv_blk_eq [35, 74, 109] 15]
  rfl
set_option maxRecDepth 100000 in
set_option maxHeartbeats 4000000 in
theorem ev_X5_seed (p : Nat) (n1 : Int32) (w : rv_W) (hp : (rv_obj w p 4).isSome = true) : rv_EV 171 [.ref p, .int n1] w = ((rv_ri (rv_EV 109 [.ref p, .int 3, .int n1] w)).bind fun q1 => some (some (.int q1.1), q1.2)) := by
  have e : rv_EV 171 [.ref p, .int n1] w = rv_GO rc_X5_seed 0 [some (.ref p), some (.int n1)] [] w := by
    show cond ((rv_obj w p 4).isSome && true) _ _ = _
    rw [hp]
    rfl
  rw [e, ← rv_blk_eq [] 6]
  rfl
set_option maxRecDepth 100000 in
set_option maxHeartbeats 4000000 in
theorem ev_X5_feed (p : Nat) (n1 : Int32) (n2 : Int32) (w : rv_W) (hp : (rv_obj w p 4).isSome = true) : rv_EV 172 [.ref p, .int n1, .int n2] w = ((rv_ri (rv_EV 107 [.long (Int32.toInt64 n2), .long (Int32.toInt64 1), .long (Int32.toInt64 4)] w)).bind fun q1 => (bif rv_cnd .ne q1.1 0 then ((rv_ldFI q1.2 p 4 7).bind fun x2 => (bif rv_cnd .le (x2 + n2) 120 then rv_GO rc_X5_feed 41 [some (.ref p), some (.int n1), none, some (.int (n2 - 1))] [] q1.2 else ((rv_ri (rv_EV 108 [.ref p, .int (-1000002)] q1.2)).bind fun q3 => some (some (.int q3.1), q3.2)))) else ((rv_ri (rv_EV 108 [.ref p, .int (-1000001)] q1.2)).bind fun q4 => some (some (.int q4.1), q4.2)))) := by
  have e : rv_EV 172 [.ref p, .int n1, .int n2] w = rv_GO rc_X5_feed 0 [some (.ref p), some (.int n1), some (.int n2), none] [] w := by
    show cond ((rv_obj w p 4).isSome && true) _ _ = _
    rw [hp]
    rfl
  rw [e, ← rv_blk_eq [41] 18]
  rfl
set_option maxRecDepth 100000 in
set_option maxHeartbeats 4000000 in
theorem bk_X5_feed_41 (v0 : Nat) (v1 : Int32) (v3 : Int32) (w : rv_W) : rv_GO rc_X5_feed 41 [some (.ref v0), some (.int v1), none, some (.int v3)] [] w = (bif rv_cnd .lt v3 0 then ((rv_ldFI w v0 4 7).bind fun x1 => some (some (.int x1), w)) else ((rv_ldFR w v0 4 6).bind fun a2 => ((rv_ldFI w v0 4 7).bind fun x3 => ((rv_stI w a2 x3 ((v1 >>> ((8 * v3) &&& 31)) &&& 255)).bind fun w4 => ((rv_ldFI w4 v0 4 7).bind fun x5 => ((rv_stF w4 v0 4 7 (.int (x5 + 1))).bind fun w6 => rv_GO rc_X5_feed 41 [some (.ref v0), some (.int v1), none, some (.int (v3 + (-1)))] [] w6)))))) := by
  rw [← rv_blk_eq [41] 24]
  rfl
set_option maxRecDepth 100000 in
set_option maxHeartbeats 4000000 in
theorem ev_X5_wipe (p : Nat) (w : rv_W) (hp : (rv_obj w p 4).isSome = true) : rv_EV 173 [.ref p] w = ((rv_ldFI w p 4 7).bind fun x1 => ((rv_stF w p 4 7 (.int 0)).bind fun w2 => some (some (.int x1), w2))) := by
  have e : rv_EV 173 [.ref p] w = rv_GO rc_X5_wipe 0 [some (.ref p), none] [] w := by
    show cond ((rv_obj w p 4).isSome && true) _ _ = _
    rw [hp]
    rfl
  rw [e, ← rv_blk_eq [] 9]
  rfl
set_option maxRecDepth 100000 in
set_option maxHeartbeats 4000000 in
theorem ev_X5_isLetter (n1 : Int32) (w : rv_W) : rv_EV 174 [.int n1] w = (bif rv_cnd .lt n1 97 then some (some (.int 0), w) else (bif rv_cnd .gt n1 122 then some (some (.int 0), w) else some (some (.int 1), w))) := by
  have e : rv_EV 174 [.int n1] w = rv_GO rc_X5_isLetter 0 [some (.int n1)] [] w := by
    rfl
  rw [e, ← rv_blk_eq [] 10]
  rfl
set_option maxRecDepth 100000 in
set_option maxHeartbeats 4000000 in
theorem ev_X5_isDigit (n1 : Int32) (w : rv_W) : rv_EV 175 [.int n1] w = (bif rv_cnd .lt n1 48 then some (some (.int 0), w) else (bif rv_cnd .gt n1 57 then some (some (.int 0), w) else some (some (.int 1), w))) := by
  have e : rv_EV 175 [.int n1] w = rv_GO rc_X5_isDigit 0 [some (.int n1)] [] w := by
    rfl
  rw [e, ← rv_blk_eq [] 10]
  rfl
set_option maxRecDepth 100000 in
set_option maxHeartbeats 4000000 in
theorem ev_X5_byteAt (p : Nat) (n1 : Int32) (w : rv_W) (hp : (rv_obj w p 4).isSome = true) : rv_EV 176 [.ref p, .int n1] w = ((rv_ldFI w p 4 7).bind fun x1 => (bif rv_cnd .ge n1 x1 then some (some (.int (-1)), w) else ((rv_ldFR w p 4 6).bind fun a2 => ((rv_ldI w a2 n1).bind fun x3 => some (some (.int x3), w))))) := by
  have e : rv_EV 176 [.ref p, .int n1] w = rv_GO rc_X5_byteAt 0 [some (.ref p), some (.int n1)] [] w := by
    show cond ((rv_obj w p 4).isSome && true) _ _ = _
    rw [hp]
    rfl
  rw [e, ← rv_blk_eq [] 11]
  rfl
set_option maxRecDepth 100000 in
set_option maxHeartbeats 4000000 in
theorem ev_X5_nextToken (p : Nat) (w : rv_W) (hp : (rv_obj w p 4).isSome = true) : rv_EV 177 [.ref p] w = ((rv_ldFI w p 4 13).bind fun x1 => ((rv_stF w p 4 12 (.int x1)).bind fun w2 => rv_GO rc_X5_nextToken 8 [some (.ref p), none] [] w2)) := by
  have e : rv_EV 177 [.ref p] w = rv_GO rc_X5_nextToken 0 [some (.ref p), none] [] w := by
    show cond ((rv_obj w p 4).isSome && true) _ _ = _
    rw [hp]
    rfl
  rw [e, ← rv_blk_eq [8, 101, 136, 195, 211] 6]
  rfl
set_option maxRecDepth 100000 in
set_option maxHeartbeats 4000000 in
theorem bk_X5_nextToken_8 (v0 : Nat) (w : rv_W) : rv_GO rc_X5_nextToken 8 [some (.ref v0), none] [] w = ((rv_ldFI w v0 4 12).bind fun x1 => ((rv_ri (rv_EV 176 [.ref v0, .int x1] w)).bind fun q2 => (bif rv_cnd .ne q2.1 32 then ((rv_ldFI q2.2 v0 4 12).bind fun x3 => ((rv_stF q2.2 v0 4 13 (.int x3)).bind fun w4 => ((rv_ldFI w4 v0 4 12).bind fun x5 => ((rv_ri (rv_EV 176 [.ref v0, .int x5] w4)).bind fun q6 => (bif rv_cnd .ge q6.1 0 then ((rv_ri (rv_EV 174 [.int q6.1] q6.2)).bind fun q7 => (bif rv_cnd .eq q7.1 0 then ((rv_ri (rv_EV 175 [.int q6.1] q7.2)).bind fun q8 => (bif rv_cnd .eq q8.1 0 then (bif rv_cnd .ne q6.1 59 then ((rv_stF q8.2 v0 4 11 (.int 4)).bind fun w9 => ((rv_stF w9 v0 4 14 (.int 0)).bind fun w10 => rv_GO rc_X5_nextToken 101 [some (.ref v0), none] [] w10)) else ((rv_stF q8.2 v0 4 11 (.int 3)).bind fun w11 => ((rv_stF w11 v0 4 14 (.int 0)).bind fun w12 => rv_GO rc_X5_nextToken 101 [some (.ref v0), none] [] w12))) else ((rv_stF q8.2 v0 4 11 (.int 2)).bind fun w13 => ((rv_stF w13 v0 4 14 (.int 0)).bind fun w14 => rv_GO rc_X5_nextToken 101 [some (.ref v0), none] [] w14)))) else ((rv_stF q7.2 v0 4 11 (.int 1)).bind fun w15 => ((rv_stF w15 v0 4 14 (.int 0)).bind fun w16 => rv_GO rc_X5_nextToken 101 [some (.ref v0), none] [] w16)))) else ((rv_stF q6.2 v0 4 11 (.int 0)).bind fun w17 => ((rv_stF w17 v0 4 14 (.int 0)).bind fun w18 => rv_GO rc_X5_nextToken 101 [some (.ref v0), none] [] w18))))))) else ((rv_ldFI q2.2 v0 4 12).bind fun x19 => ((rv_stF q2.2 v0 4 12 (.int (x19 + 1))).bind fun w20 => rv_GO rc_X5_nextToken 8 [some (.ref v0), none] [] w20))))) := by
  rw [← rv_blk_eq [8, 101, 136, 195, 211] 35]
  rfl
set_option maxRecDepth 100000 in
set_option maxHeartbeats 4000000 in
theorem bk_X5_nextToken_101 (v0 : Nat) (w : rv_W) : rv_GO rc_X5_nextToken 101 [some (.ref v0), none] [] w = ((rv_ldFI w v0 4 11).bind fun x1 => (bif rv_cnd .ne x1 1 then rv_GO rc_X5_nextToken 136 [some (.ref v0), none] [] w else ((rv_ldFI w v0 4 13).bind fun x2 => ((rv_ri (rv_EV 176 [.ref v0, .int x2] w)).bind fun q3 => ((rv_ri (rv_EV 174 [.int q3.1] q3.2)).bind fun q4 => (bif rv_cnd .eq q4.1 0 then rv_GO rc_X5_nextToken 136 [some (.ref v0), none] [] q4.2 else ((rv_ldFI q4.2 v0 4 13).bind fun x5 => ((rv_stF q4.2 v0 4 13 (.int (x5 + 1))).bind fun w6 => rv_GO rc_X5_nextToken 101 [some (.ref v0), none] [] w6)))))))) := by
  rw [← rv_blk_eq [8, 101, 136, 195, 211] 19]
  rfl
set_option maxRecDepth 100000 in
set_option maxHeartbeats 4000000 in
theorem bk_X5_nextToken_136 (v0 : Nat) (w : rv_W) : rv_GO rc_X5_nextToken 136 [some (.ref v0), none] [] w = ((rv_ldFI w v0 4 11).bind fun x1 => (bif rv_cnd .ne x1 2 then rv_GO rc_X5_nextToken 211 [some (.ref v0), none] [] w else ((rv_ldFI w v0 4 13).bind fun x2 => ((rv_ri (rv_EV 176 [.ref v0, .int x2] w)).bind fun q3 => ((rv_ri (rv_EV 175 [.int q3.1] q3.2)).bind fun q4 => (bif rv_cnd .eq q4.1 0 then rv_GO rc_X5_nextToken 211 [some (.ref v0), none] [] q4.2 else ((rv_ldFI q4.2 v0 4 14).bind fun x5 => (bif rv_cnd .le x5 9999 then ((rv_ldFI q4.2 v0 4 14).bind fun x6 => ((rv_ldFI q4.2 v0 4 13).bind fun x7 => ((rv_ri (rv_EV 176 [.ref v0, .int x7] q4.2)).bind fun q8 => rv_GO rc_X5_nextToken 195 [some (.ref v0), none] [.int (((10 * x6) + q8.1) - 48), .ref v0] q8.2))) else ((rv_ldFI q4.2 v0 4 14).bind fun x9 => rv_GO rc_X5_nextToken 195 [some (.ref v0), none] [.int x9, .ref v0] q4.2))))))))) := by
  rw [← rv_blk_eq [8, 101, 136, 195, 211] 28]
  rfl
set_option maxRecDepth 100000 in
set_option maxHeartbeats 4000000 in
theorem bk_X5_nextToken_195 (v0 : Nat) (s0 : Int32) (s1 : Nat) (w : rv_W) : rv_GO rc_X5_nextToken 195 [some (.ref v0), none] [.int s0, .ref s1] w = ((rv_stF w s1 4 14 (.int s0)).bind fun w1 => ((rv_ldFI w1 v0 4 13).bind fun x2 => ((rv_stF w1 v0 4 13 (.int (x2 + 1))).bind fun w3 => rv_GO rc_X5_nextToken 136 [some (.ref v0), none] [] w3))) := by
  rw [← rv_blk_eq [8, 101, 136, 195, 211] 10]
  rfl
set_option maxRecDepth 100000 in
set_option maxHeartbeats 4000000 in
theorem bk_X5_nextToken_211 (v0 : Nat) (w : rv_W) : rv_GO rc_X5_nextToken 211 [some (.ref v0), none] [] w = ((rv_ldFI w v0 4 13).bind fun x1 => ((rv_ldFI w v0 4 11).bind fun x2 => (bif rv_cnd .le x2 2 then ((rv_stF w v0 4 13 (.int (x1 + 0))).bind fun w3 => some (none, w3)) else ((rv_stF w v0 4 13 (.int (x1 + 1))).bind fun w4 => some (none, w4))))) := by
  rw [← rv_blk_eq [8, 101, 136, 195, 211] 13]
  rfl
set_option maxRecDepth 100000 in
set_option maxHeartbeats 4000000 in
theorem ev_X5_has3 (p : Nat) (n1 : Int32) (n2 : Int32) (n3 : Int32) (n4 : Int32) (w : rv_W) (hp : (rv_obj w p 4).isSome = true) : rv_EV 178 [.ref p, .int n1, .int n2, .int n3, .int n4] w = ((rv_ldFI w p 4 12).bind fun x1 => ((rv_ri (rv_EV 176 [.ref p, .int (x1 + n1)] w)).bind fun q2 => (bif rv_cnd .ne q2.1 n2 then some (some (.int 0), q2.2) else ((rv_ldFI q2.2 p 4 12).bind fun x3 => ((rv_ri (rv_EV 176 [.ref p, .int ((x3 + n1) + 1)] q2.2)).bind fun q4 => (bif rv_cnd .ne q4.1 n3 then some (some (.int 0), q4.2) else ((rv_ldFI q4.2 p 4 12).bind fun x5 => ((rv_ri (rv_EV 176 [.ref p, .int ((x5 + n1) + 2)] q4.2)).bind fun q6 => (bif rv_cnd .ne q6.1 n4 then some (some (.int 0), q6.2) else some (some (.int 1), q6.2)))))))))) := by
  have e : rv_EV 178 [.ref p, .int n1, .int n2, .int n3, .int n4] w = rv_GO rc_X5_has3 0 [some (.ref p), some (.int n1), some (.int n2), some (.int n3), some (.int n4)] [] w := by
    show cond ((rv_obj w p 4).isSome && true) _ _ = _
    rw [hp]
    rfl
  rw [e, ← rv_blk_eq [] 32]
  rfl
set_option maxRecDepth 100000 in
set_option maxHeartbeats 4000000 in
theorem ev_X5_isWord (p : Nat) (n1 : Int32) (w : rv_W) (hp : (rv_obj w p 4).isSome = true) : rv_EV 179 [.ref p, .int n1] w = ((rv_ldFI w p 4 11).bind fun x1 => (bif rv_cnd .ne x1 1 then some (some (.int 0), w) else ((rv_ldFI w p 4 13).bind fun x2 => ((rv_ldFI w p 4 12).bind fun x3 => (bif rv_cnd .ne (x2 - x3) n1 then some (some (.int 0), w) else some (some (.int 1), w)))))) := by
  have e : rv_EV 179 [.ref p, .int n1] w = rv_GO rc_X5_isWord 0 [some (.ref p), some (.int n1)] [] w := by
    show cond ((rv_obj w p 4).isSome && true) _ _ = _
    rw [hp]
    rfl
  rw [e, ← rv_blk_eq [] 15]
  rfl
set_option maxRecDepth 100000 in
set_option maxHeartbeats 4000000 in
theorem ev_X5_fails (p : Nat) (w : rv_W) (hp : (rv_obj w p 4).isSome = true) : rv_EV 180 [.ref p] w = ((rv_ldFI w p 4 12).bind fun x1 => ((rv_stF w p 4 15 (.int x1)).bind fun w2 => some (some (.int 0), w2))) := by
  have e : rv_EV 180 [.ref p] w = rv_GO rc_X5_fails 0 [some (.ref p)] [] w := by
    show cond ((rv_obj w p 4).isSome && true) _ _ = _
    rw [hp]
    rfl
  rw [e, ← rv_blk_eq [] 7]
  rfl
set_option maxRecDepth 100000 in
set_option maxHeartbeats 4000000 in
theorem ev_X5_isFour (p : Nat) (n1 : Int32) (n2 : Int32) (n3 : Int32) (n4 : Int32) (w : rv_W) (hp : (rv_obj w p 4).isSome = true) : rv_EV 181 [.ref p, .int n1, .int n2, .int n3, .int n4] w = ((rv_ri (rv_EV 179 [.ref p, .int 4] w)).bind fun q1 => (bif rv_cnd .eq q1.1 0 then some (some (.int 0), q1.2) else ((rv_ri (rv_EV 178 [.ref p, .int 0, .int n1, .int n2, .int n3] q1.2)).bind fun q2 => (bif rv_cnd .eq q2.1 0 then some (some (.int 0), q2.2) else ((rv_ri (rv_EV 178 [.ref p, .int 1, .int n2, .int n3, .int n4] q2.2)).bind fun q3 => (bif rv_cnd .eq q3.1 0 then some (some (.int 0), q3.2) else some (some (.int 1), q3.2))))))) := by
  have e : rv_EV 181 [.ref p, .int n1, .int n2, .int n3, .int n4] w = rv_GO rc_X5_isFour 0 [some (.ref p), some (.int n1), some (.int n2), some (.int n3), some (.int n4)] [] w := by
    show cond ((rv_obj w p 4).isSome && true) _ _ = _
    rw [hp]
    rfl
  rw [e, ← rv_blk_eq [] 22]
  rfl
set_option maxRecDepth 100000 in
set_option maxHeartbeats 4000000 in
theorem ev_X5_isFive (p : Nat) (n1 : Int32) (n2 : Int32) (n3 : Int32) (n4 : Int32) (n5 : Int32) (w : rv_W) (hp : (rv_obj w p 4).isSome = true) : rv_EV 182 [.ref p, .int n1, .int n2, .int n3, .int n4, .int n5] w = ((rv_ri (rv_EV 179 [.ref p, .int 5] w)).bind fun q1 => (bif rv_cnd .eq q1.1 0 then some (some (.int 0), q1.2) else ((rv_ri (rv_EV 178 [.ref p, .int 0, .int n1, .int n2, .int n3] q1.2)).bind fun q2 => (bif rv_cnd .eq q2.1 0 then some (some (.int 0), q2.2) else ((rv_ri (rv_EV 178 [.ref p, .int 2, .int n3, .int n4, .int n5] q2.2)).bind fun q3 => (bif rv_cnd .eq q3.1 0 then some (some (.int 0), q3.2) else some (some (.int 1), q3.2))))))) := by
  have e : rv_EV 182 [.ref p, .int n1, .int n2, .int n3, .int n4, .int n5] w = rv_GO rc_X5_isFive 0 [some (.ref p), some (.int n1), some (.int n2), some (.int n3), some (.int n4), some (.int n5)] [] w := by
    show cond ((rv_obj w p 4).isSome && true) _ _ = _
    rw [hp]
    rfl
  rw [e, ← rv_blk_eq [] 22]
  rfl
set_option maxRecDepth 100000 in
set_option maxHeartbeats 4000000 in
theorem ev_X5_isSix (p : Nat) (n1 : Int32) (n2 : Int32) (n3 : Int32) (n4 : Int32) (n5 : Int32) (n6 : Int32) (w : rv_W) (hp : (rv_obj w p 4).isSome = true) : rv_EV 183 [.ref p, .int n1, .int n2, .int n3, .int n4, .int n5, .int n6] w = ((rv_ri (rv_EV 179 [.ref p, .int 6] w)).bind fun q1 => (bif rv_cnd .eq q1.1 0 then some (some (.int 0), q1.2) else ((rv_ri (rv_EV 178 [.ref p, .int 0, .int n1, .int n2, .int n3] q1.2)).bind fun q2 => (bif rv_cnd .eq q2.1 0 then some (some (.int 0), q2.2) else ((rv_ri (rv_EV 178 [.ref p, .int 3, .int n4, .int n5, .int n6] q2.2)).bind fun q3 => (bif rv_cnd .eq q3.1 0 then some (some (.int 0), q3.2) else some (some (.int 1), q3.2))))))) := by
  have e : rv_EV 183 [.ref p, .int n1, .int n2, .int n3, .int n4, .int n5, .int n6] w = rv_GO rc_X5_isSix 0 [some (.ref p), some (.int n1), some (.int n2), some (.int n3), some (.int n4), some (.int n5), some (.int n6)] [] w := by
    show cond ((rv_obj w p 4).isSome && true) _ _ = _
    rw [hp]
    rfl
  rw [e, ← rv_blk_eq [] 22]
  rfl
set_option maxRecDepth 100000 in
set_option maxHeartbeats 4000000 in
theorem ev_X5_isNumber (p : Nat) (n1 : Int32) (n2 : Int32) (w : rv_W) (hp : (rv_obj w p 4).isSome = true) : rv_EV 184 [.ref p, .int n1, .int n2] w = ((rv_ldFI w p 4 11).bind fun x1 => (bif rv_cnd .ne x1 2 then rv_GO rc_X5_isNumber 23 [some (.ref p), none, none] [] w else ((rv_ldFI w p 4 14).bind fun x2 => ((rv_ri (rv_EV 107 [.long (Int32.toInt64 x2), .long (Int32.toInt64 n1), .long (Int32.toInt64 n2)] w)).bind fun q3 => (bif rv_cnd .ne q3.1 0 then some (some (.int 1), q3.2) else rv_GO rc_X5_isNumber 23 [some (.ref p), none, none] [] q3.2))))) := by
  have e : rv_EV 184 [.ref p, .int n1, .int n2] w = rv_GO rc_X5_isNumber 0 [some (.ref p), some (.int n1), some (.int n2)] [] w := by
    show cond ((rv_obj w p 4).isSome && true) _ _ = _
    rw [hp]
    rfl
  rw [e, ← rv_blk_eq [23] 17]
  rfl
set_option maxRecDepth 100000 in
set_option maxHeartbeats 4000000 in
theorem bk_X5_isNumber_23 (v0 : Nat) (w : rv_W) : rv_GO rc_X5_isNumber 23 [some (.ref v0), none, none] [] w = ((rv_ri (rv_EV 180 [.ref v0] w)).bind fun q1 => (bif rv_cnd .eq q1.1 0 then some (some (.int 0), q1.2) else some (some (.int 1), q1.2))) := by
  rw [← rv_blk_eq [23] 7]
  rfl
set_option maxRecDepth 100000 in
set_option maxHeartbeats 4000000 in
theorem ev_X5_kindHere (p : Nat) (w : rv_W) (hp : (rv_obj w p 4).isSome = true) : rv_EV 185 [.ref p] w = ((rv_ri (rv_EV 183 [.ref p, .int 98, .int 97, .int 116, .int 104, .int 101, .int 114] w)).bind fun q1 => (bif rv_cnd .eq q1.1 0 then ((rv_ri (rv_EV 179 [.ref p, .int 7] q1.2)).bind fun q2 => (bif rv_cnd .eq q2.1 0 then rv_GO rc_X5_kindHere 74 [some (.ref p)] [] q2.2 else ((rv_ri (rv_EV 178 [.ref p, .int 0, .int 100, .int 117, .int 99] q2.2)).bind fun q3 => (bif rv_cnd .eq q3.1 0 then rv_GO rc_X5_kindHere 74 [some (.ref p)] [] q3.2 else ((rv_ri (rv_EV 178 [.ref p, .int 3, .int 104, .int 101, .int 115] q3.2)).bind fun q4 => (bif rv_cnd .eq q4.1 0 then rv_GO rc_X5_kindHere 74 [some (.ref p)] [] q4.2 else ((rv_ri (rv_EV 178 [.ref p, .int 4, .int 101, .int 115, .int 115] q4.2)).bind fun q5 => (bif rv_cnd .eq q5.1 0 then rv_GO rc_X5_kindHere 74 [some (.ref p)] [] q5.2 else some (some (.int 1), q5.2))))))))) else some (some (.int 0), q1.2))) := by
  have e : rv_EV 185 [.ref p] w = rv_GO rc_X5_kindHere 0 [some (.ref p)] [] w := by
    show cond ((rv_obj w p 4).isSome && true) _ _ = _
    rw [hp]
    rfl
  rw [e, ← rv_blk_eq [74, 117, 186, 210] 37]
  rfl
set_option maxRecDepth 100000 in
set_option maxHeartbeats 4000000 in
theorem bk_X5_kindHere_74 (v0 : Nat) (w : rv_W) : rv_GO rc_X5_kindHere 74 [some (.ref v0)] [] w = ((rv_ri (rv_EV 182 [.ref v0, .int 99, .int 108, .int 101, .int 114, .int 107] w)).bind fun q1 => (bif rv_cnd .eq q1.1 0 then ((rv_ri (rv_EV 179 [.ref v0, .int 3] q1.2)).bind fun q2 => (bif rv_cnd .eq q2.1 0 then rv_GO rc_X5_kindHere 117 [some (.ref v0)] [] q2.2 else ((rv_ri (rv_EV 178 [.ref v0, .int 0, .int 115, .int 112, .int 121] q2.2)).bind fun q3 => (bif rv_cnd .eq q3.1 0 then rv_GO rc_X5_kindHere 117 [some (.ref v0)] [] q3.2 else some (some (.int 3), q3.2))))) else some (some (.int 2), q1.2))) := by
  rw [← rv_blk_eq [74, 117, 186, 210] 22]
  rfl
set_option maxRecDepth 100000 in
set_option maxHeartbeats 4000000 in
theorem bk_X5_kindHere_117 (v0 : Nat) (w : rv_W) : rv_GO rc_X5_kindHere 117 [some (.ref v0)] [] w = ((rv_ri (rv_EV 179 [.ref v0, .int 11] w)).bind fun q1 => (bif rv_cnd .eq q1.1 0 then rv_GO rc_X5_kindHere 186 [some (.ref v0)] [] q1.2 else ((rv_ri (rv_EV 178 [.ref v0, .int 0, .int 108, .int 97, .int 109] q1.2)).bind fun q2 => (bif rv_cnd .eq q2.1 0 then rv_GO rc_X5_kindHere 186 [some (.ref v0)] [] q2.2 else ((rv_ri (rv_EV 178 [.ref v0, .int 3, .int 112, .int 108, .int 105] q2.2)).bind fun q3 => (bif rv_cnd .eq q3.1 0 then rv_GO rc_X5_kindHere 186 [some (.ref v0)] [] q3.2 else ((rv_ri (rv_EV 178 [.ref v0, .int 6, .int 103, .int 104, .int 116] q3.2)).bind fun q4 => (bif rv_cnd .eq q4.1 0 then rv_GO rc_X5_kindHere 186 [some (.ref v0)] [] q4.2 else ((rv_ri (rv_EV 178 [.ref v0, .int 8, .int 116, .int 101, .int 114] q4.2)).bind fun q5 => (bif rv_cnd .eq q5.1 0 then rv_GO rc_X5_kindHere 186 [some (.ref v0)] [] q5.2 else some (some (.int 4), q5.2))))))))))) := by
  rw [← rv_blk_eq [74, 117, 186, 210] 35]
  rfl
set_option maxRecDepth 100000 in
set_option maxHeartbeats 4000000 in
theorem bk_X5_kindHere_186 (v0 : Nat) (w : rv_W) : rv_GO rc_X5_kindHere 186 [some (.ref v0)] [] w = ((rv_ri (rv_EV 179 [.ref v0, .int 3] w)).bind fun q1 => (bif rv_cnd .eq q1.1 0 then rv_GO rc_X5_kindHere 210 [some (.ref v0)] [] q1.2 else ((rv_ri (rv_EV 178 [.ref v0, .int 0, .int 115, .int 97, .int 100] q1.2)).bind fun q2 => (bif rv_cnd .eq q2.1 0 then rv_GO rc_X5_kindHere 210 [some (.ref v0)] [] q2.2 else some (some (.int 5), q2.2))))) := by
  rw [← rv_blk_eq [74, 117, 186, 210] 14]
  rfl
set_option maxRecDepth 100000 in
set_option maxHeartbeats 4000000 in
theorem bk_X5_kindHere_210 (v0 : Nat) (w : rv_W) : rv_GO rc_X5_kindHere 210 [some (.ref v0)] [] w = ((rv_ri (rv_EV 183 [.ref v0, .int 99, .int 111, .int 110, .int 115, .int 117, .int 108] w)).bind fun q1 => (bif rv_cnd .eq q1.1 0 then some (some (.int (-1)), q1.2) else some (some (.int 6), q1.2))) := by
  rw [← rv_blk_eq [74, 117, 186, 210] 13]
  rfl
set_option maxRecDepth 100000 in
set_option maxHeartbeats 4000000 in
theorem ev_X5_isTwo (p : Nat) (n1 : Int32) (n2 : Int32) (w : rv_W) (hp : (rv_obj w p 4).isSome = true) : rv_EV 186 [.ref p, .int n1, .int n2] w = ((rv_ri (rv_EV 179 [.ref p, .int 2] w)).bind fun q1 => (bif rv_cnd .eq q1.1 0 then some (some (.int 0), q1.2) else ((rv_ldFI q1.2 p 4 12).bind fun x2 => ((rv_ri (rv_EV 176 [.ref p, .int x2] q1.2)).bind fun q3 => (bif rv_cnd .ne q3.1 n1 then some (some (.int 0), q3.2) else ((rv_ldFI q3.2 p 4 12).bind fun x4 => ((rv_ri (rv_EV 176 [.ref p, .int (x4 + 1)] q3.2)).bind fun q5 => (bif rv_cnd .ne q5.1 n2 then some (some (.int 0), q5.2) else some (some (.int 1), q5.2))))))))) := by
  have e : rv_EV 186 [.ref p, .int n1, .int n2] w = rv_GO rc_X5_isTwo 0 [some (.ref p), some (.int n1), some (.int n2)] [] w := by
    show cond ((rv_obj w p 4).isSome && true) _ _ = _
    rw [hp]
    rfl
  rw [e, ← rv_blk_eq [] 22]
  rfl
set_option maxRecDepth 100000 in
set_option maxHeartbeats 4000000 in
theorem ev_X5_perhaps (p : Nat) (n1 : Int32) (n2 : Int32) (w : rv_W) (hp : (rv_obj w p 4).isSome = true) : rv_EV 187 [.ref p, .int n1, .int n2] w = (bif rv_cnd .ne n1 0 then ((rv_rv (rv_EV 177 [.ref p] w)).bind fun q1 => ((rv_ri (rv_EV 133 [.int n2] q1)).bind fun q2 => ((rv_ri (rv_EV 184 [.ref p, .int 0, .int q2.1] q2.2)).bind fun q3 => (bif rv_cnd .ne q3.1 0 then ((rv_ldFR q3.2 p 4 0).bind fun a4 => ((rv_ldFR q3.2 p 4 0).bind fun a5 => ((rv_ldI q3.2 a5 0).bind fun x6 => ((rv_ldFI q3.2 p 4 14).bind fun x7 => ((rv_stI q3.2 a4 ((54 + (4 * (x6 - 1))) + n2) x7).bind fun w8 => ((rv_rv (rv_EV 177 [.ref p] w8)).bind fun q9 => some (some (.int 1), q9))))))) else some (some (.int 0), q3.2))))) else some (some (.int 1), w)) := by
  have e : rv_EV 187 [.ref p, .int n1, .int n2] w = rv_GO rc_X5_perhaps 0 [some (.ref p), some (.int n1), some (.int n2)] [] w := by
    show cond ((rv_obj w p 4).isSome && true) _ _ = _
    rw [hp]
    rfl
  rw [e, ← rv_blk_eq [] 32]
  rfl
set_option maxRecDepth 100000 in
set_option maxHeartbeats 4000000 in
theorem ev_X5_batherHere (p : Nat) (n1 : Int32) (w : rv_W) (hp : (rv_obj w p 4).isSome = true) : rv_EV 188 [.ref p, .int n1] w = ((rv_ldFR w p 4 0).bind fun a1 => ((rv_ldI w a1 0).bind fun x2 => (bif rv_cnd .ne x2 8 then ((rv_rv (rv_EV 126 [.ref p, .int n1, .int 0, .int 0, .int 0] w)).bind fun q3 => ((rv_rv (rv_EV 177 [.ref p] q3)).bind fun q4 => ((rv_ri (rv_EV 186 [.ref p, .int 105, .int 110] q4)).bind fun q5 => ((rv_ri (rv_EV 187 [.ref p, .int q5.1, .int 1] q5.2)).bind fun q6 => (bif rv_cnd .eq q6.1 0 then some (some (.int 0), q6.2) else ((rv_ri (rv_EV 181 [.ref p, .int 119, .int 105, .int 116, .int 104] q6.2)).bind fun q7 => ((rv_ri (rv_EV 187 [.ref p, .int q7.1, .int 2] q7.2)).bind fun q8 => (bif rv_cnd .eq q8.1 0 then some (some (.int 0), q8.2) else ((rv_ri (rv_EV 182 [.ref p, .int 107, .int 110, .int 111, .int 119, .int 115] q8.2)).bind fun q9 => ((rv_ri (rv_EV 187 [.ref p, .int q9.1, .int 3] q9.2)).bind fun q10 => (bif rv_cnd .eq q10.1 0 then some (some (.int 0), q10.2) else some (some (.int 1), q10.2)))))))))))) else ((rv_ri (rv_EV 180 [.ref p] w)).bind fun q11 => (bif rv_bz q11.1 then some (some (.int q11.1), q11.2) else none))))) := by
  have e : rv_EV 188 [.ref p, .int n1] w = rv_GO rc_X5_batherHere 0 [some (.ref p), some (.int n1)] [] w := by
    show cond ((rv_obj w p 4).isSome && true) _ _ = _
    rw [hp]
    rfl
  rw [e, ← rv_blk_eq [] 47]
  rfl
set_option maxRecDepth 100000 in
set_option maxHeartbeats 4000000 in
theorem ev_X5_tubHere (p : Nat) (w : rv_W) (hp : (rv_obj w p 4).isSome = true) : rv_EV 189 [.ref p] w = ((rv_rv (rv_EV 177 [.ref p] w)).bind fun q1 => ((rv_ri (rv_EV 184 [.ref p, .int 0, .int 9] q1)).bind fun q2 => (bif rv_cnd .ne q2.1 0 then ((rv_ldFI q2.2 p 4 14).bind fun x3 => ((rv_rv (rv_EV 177 [.ref p] q2.2)).bind fun q4 => ((rv_ri (rv_EV 184 [.ref p, .int 0, .int 99] q4)).bind fun q5 => (bif rv_cnd .ne q5.1 0 then ((rv_ldFR q5.2 p 4 0).bind fun a6 => ((rv_ldFI q5.2 p 4 14).bind fun x7 => ((rv_stI q5.2 a6 (4 + x3) x7).bind fun w8 => ((rv_rv (rv_EV 177 [.ref p] w8)).bind fun q9 => ((rv_ri (rv_EV 186 [.ref p, .int 111, .int 102] q9)).bind fun q10 => (bif rv_cnd .ne q10.1 0 then ((rv_rv (rv_EV 177 [.ref p] q10.2)).bind fun q11 => ((rv_ri (rv_EV 184 [.ref p, .int 0, .int 3] q11)).bind fun q12 => (bif rv_cnd .ne q12.1 0 then ((rv_ldFI q12.2 p 4 14).bind fun x13 => ((rv_rv (rv_EV 177 [.ref p] q12.2)).bind fun q14 => ((rv_ri (rv_EV 184 [.ref p, .int 0, .int 9999] q14)).bind fun q15 => (bif rv_cnd .ne q15.1 0 then ((rv_ldFR q15.2 p 4 0).bind fun a16 => ((rv_ri (rv_EV 118 [.int x3, .int x13] q15.2)).bind fun q17 => ((rv_ldFI q17.2 p 4 14).bind fun x18 => ((rv_stI q17.2 a16 q17.1 x18).bind fun w19 => ((rv_rv (rv_EV 177 [.ref p] w19)).bind fun q20 => some (some (.int 1), q20)))))) else some (some (.int 0), q15.2))))) else some (some (.int 0), q12.2)))) else some (some (.int 1), q10.2))))))) else some (some (.int 0), q5.2))))) else some (some (.int 0), q2.2)))) := by
  have e : rv_EV 189 [.ref p] w = rv_GO rc_X5_tubHere 0 [some (.ref p), none, none] [] w := by
    show cond ((rv_obj w p 4).isSome && true) _ _ = _
    rw [hp]
    rfl
  rw [e, ← rv_blk_eq [] 62]
  rfl
set_option maxRecDepth 100000 in
set_option maxHeartbeats 4000000 in
theorem ev_X5_freshHere (p : Nat) (w : rv_W) (hp : (rv_obj w p 4).isSome = true) : rv_EV 190 [.ref p] w = ((rv_rv (rv_EV 177 [.ref p] w)).bind fun q1 => ((rv_ri (rv_EV 184 [.ref p, .int 0, .int 99] q1)).bind fun q2 => (bif rv_cnd .ne q2.1 0 then ((rv_ldFR q2.2 p 4 0).bind fun a3 => ((rv_ldFI q2.2 p 4 14).bind fun x4 => ((rv_stI q2.2 a3 2 x4).bind fun w5 => ((rv_rv (rv_EV 177 [.ref p] w5)).bind fun q6 => some (some (.int 1), q6))))) else some (some (.int 0), q2.2)))) := by
  have e : rv_EV 190 [.ref p] w = rv_GO rc_X5_freshHere 0 [some (.ref p)] [] w := by
    show cond ((rv_obj w p 4).isSome && true) _ _ = _
    rw [hp]
    rfl
  rw [e, ← rv_blk_eq [] 18]
  rfl
set_option maxRecDepth 100000 in
set_option maxHeartbeats 4000000 in
theorem ev_X5_plugHere (p : Nat) (w : rv_W) (hp : (rv_obj w p 4).isSome = true) : rv_EV 191 [.ref p] w = ((rv_rv (rv_EV 177 [.ref p] w)).bind fun q1 => ((rv_ri (rv_EV 184 [.ref p, .int 0, .int 9] q1)).bind fun q2 => (bif rv_cnd .ne q2.1 0 then ((rv_ldFI q2.2 p 4 14).bind fun x3 => ((rv_ri (rv_EV 124 [.ref p, .int x3] q2.2)).bind fun q4 => ((rv_rv (rv_EV 177 [.ref p] q4.2)).bind fun q5 => some (some (.int 1), q5)))) else some (some (.int 0), q2.2)))) := by
  have e : rv_EV 191 [.ref p] w = rv_GO rc_X5_plugHere 0 [some (.ref p), none] [] w := by
    show cond ((rv_obj w p 4).isSome && true) _ _ = _
    rw [hp]
    rfl
  rw [e, ← rv_blk_eq [] 17]
  rfl
set_option maxRecDepth 100000 in
set_option maxHeartbeats 4000000 in
theorem ev_X5_itemHere (p : Nat) (w : rv_W) (hp : (rv_obj w p 4).isSome = true) : rv_EV 192 [.ref p] w = ((rv_ri (rv_EV 185 [.ref p] w)).bind fun q1 => (bif rv_cnd .lt q1.1 0 then ((rv_ri (rv_EV 179 [.ref p, .int 3] q1.2)).bind fun q2 => (bif rv_cnd .eq q2.1 0 then rv_GO rc_X5_itemHere 42 [some (.ref p), none] [] q2.2 else ((rv_ri (rv_EV 178 [.ref p, .int 0, .int 116, .int 117, .int 98] q2.2)).bind fun q3 => (bif rv_cnd .eq q3.1 0 then rv_GO rc_X5_itemHere 42 [some (.ref p), none] [] q3.2 else ((rv_ri (rv_EV 189 [.ref p] q3.2)).bind fun q4 => (bif rv_bz q4.1 then some (some (.int q4.1), q4.2) else none)))))) else ((rv_ri (rv_EV 188 [.ref p, .int q1.1] q1.2)).bind fun q5 => (bif rv_bz q5.1 then some (some (.int q5.1), q5.2) else none)))) := by
  have e : rv_EV 192 [.ref p] w = rv_GO rc_X5_itemHere 0 [some (.ref p), none] [] w := by
    show cond ((rv_obj w p 4).isSome && true) _ _ = _
    rw [hp]
    rfl
  rw [e, ← rv_blk_eq [42] 20]
  rfl
set_option maxRecDepth 100000 in
set_option maxHeartbeats 4000000 in
theorem bk_X5_itemHere_42 (v0 : Nat) (w : rv_W) : rv_GO rc_X5_itemHere 42 [some (.ref v0), none] [] w = ((rv_ri (rv_EV 182 [.ref v0, .int 102, .int 114, .int 101, .int 115, .int 104] w)).bind fun q1 => (bif rv_cnd .eq q1.1 0 then ((rv_ri (rv_EV 181 [.ref v0, .int 112, .int 108, .int 117, .int 103] q1.2)).bind fun q2 => (bif rv_cnd .eq q2.1 0 then ((rv_ri (rv_EV 180 [.ref v0] q2.2)).bind fun q3 => (bif rv_bz q3.1 then some (some (.int q3.1), q3.2) else none)) else ((rv_ri (rv_EV 191 [.ref v0] q2.2)).bind fun q4 => (bif rv_bz q4.1 then some (some (.int q4.1), q4.2) else none)))) else ((rv_ri (rv_EV 190 [.ref v0] q1.2)).bind fun q5 => (bif rv_bz q5.1 then some (some (.int q5.1), q5.2) else none)))) := by
  rw [← rv_blk_eq [42] 20]
  rfl
set_option maxRecDepth 100000 in
set_option maxHeartbeats 4000000 in
theorem ev_X5_text (p : Nat) (w : rv_W) (hp : (rv_obj w p 4).isSome = true) : rv_EV 193 [.ref p] w = ((rv_ldFR w p 4 0).bind fun a1 => ((rv_ldFR w p 4 2).bind fun a2 => ((rv_rv (rv_EV 110 [.ref a1, .ref a2] w)).bind fun q3 => ((rv_stF q3 p 4 13 (.int 0)).bind fun w4 => ((rv_rv (rv_EV 177 [.ref p] w4)).bind fun q5 => ((rv_ri (rv_EV 192 [.ref p] q5)).bind fun q6 => rv_GO rc_X5_text 27 [some (.ref p), some (.int 1), some (.int q6.1)] [] q6.2)))))) := by
  have e : rv_EV 193 [.ref p] w = rv_GO rc_X5_text 0 [some (.ref p), none, none] [] w := by
    show cond ((rv_obj w p 4).isSome && true) _ _ = _
    rw [hp]
    rfl
  rw [e, ← rv_blk_eq [27, 54, 77, 98] 17]
  rfl
set_option maxRecDepth 100000 in
set_option maxHeartbeats 4000000 in
theorem bk_X5_text_27 (v0 : Nat) (v1 : Int32) (v2 : Int32) (w : rv_W) : rv_GO rc_X5_text 27 [some (.ref v0), some (.int v1), some (.int v2)] [] w = (bif rv_cnd .eq v2 0 then rv_GO rc_X5_text 54 [some (.ref v0), some (.int v1), some (.int v2)] [] w else ((rv_ldFI w v0 4 11).bind fun x1 => (bif rv_cnd .ne x1 3 then rv_GO rc_X5_text 54 [some (.ref v0), some (.int v1), some (.int v2)] [] w else ((rv_rv (rv_EV 177 [.ref v0] w)).bind fun q2 => ((rv_ri (rv_EV 192 [.ref v0] q2)).bind fun q3 => rv_GO rc_X5_text 27 [some (.ref v0), some (.int (v1 + 1)), some (.int q3.1)] [] q3.2))))) := by
  rw [← rv_blk_eq [27, 54, 77, 98] 15]
  rfl
set_option maxRecDepth 100000 in
set_option maxHeartbeats 4000000 in
theorem bk_X5_text_54 (v0 : Nat) (v1 : Int32) (v2 : Int32) (w : rv_W) : rv_GO rc_X5_text 54 [some (.ref v0), some (.int v1), some (.int v2)] [] w = (bif rv_cnd .eq v2 0 then rv_GO rc_X5_text 77 [some (.ref v0), some (.int v1), none] [.int 0] w else ((rv_ldFI w v0 4 11).bind fun x1 => (bif rv_cnd .eq x1 0 then rv_GO rc_X5_text 77 [some (.ref v0), some (.int v1), none] [.int 1] w else ((rv_ri (rv_EV 180 [.ref v0] w)).bind fun q2 => (bif rv_cnd .eq q2.1 0 then rv_GO rc_X5_text 77 [some (.ref v0), some (.int v1), none] [.int 0] q2.2 else rv_GO rc_X5_text 77 [some (.ref v0), some (.int v1), none] [.int 1] q2.2))))) := by
  rw [← rv_blk_eq [27, 54, 77, 98] 12]
  rfl
set_option maxRecDepth 100000 in
set_option maxHeartbeats 4000000 in
theorem bk_X5_text_77 (v0 : Nat) (v1 : Int32) (s0 : Int32) (w : rv_W) : rv_GO rc_X5_text 77 [some (.ref v0), some (.int v1), none] [.int s0] w = ((rv_stF w v0 4 7 (.int 0)).bind fun w1 => (bif rv_cnd .ne s0 0 then rv_GO rc_X5_text 98 [some (.ref v0), some (.int v1), some (.int s0)] [] w1 else ((rv_ldFR w1 v0 4 2).bind fun a2 => ((rv_ldFR w1 v0 4 0).bind fun a3 => ((rv_rv (rv_EV 110 [.ref a2, .ref a3] w1)).bind fun q4 => rv_GO rc_X5_text 98 [some (.ref v0), some (.int v1), some (.int s0)] [] q4))))) := by
  rw [← rv_blk_eq [27, 54, 77, 98] 13]
  rfl
set_option maxRecDepth 100000 in
set_option maxHeartbeats 4000000 in
theorem bk_X5_text_98 (v0 : Nat) (v1 : Int32) (v2 : Int32) (w : rv_W) : rv_GO rc_X5_text 98 [some (.ref v0), some (.int v1), some (.int v2)] [] w = (bif rv_cnd .eq v2 0 then ((rv_ldFI w v0 4 15).bind fun x1 => some (some (.int ((-1) - x1)), w)) else some (some (.int v1), w)) := by
  rw [← rv_blk_eq [27, 54, 77, 98] 8]
  rfl
set_option maxRecDepth 100000 in
set_option maxHeartbeats 4000000 in
theorem ev_X5_hold (p : Nat) (n1 : Int32) (n2 : Int32) (w : rv_W) (hp : (rv_obj w p 4).isSome = true) : rv_EV 194 [.ref p, .int n1, .int n2] w = ((rv_ri (rv_EV 107 [.long (Int32.toInt64 n1), .long (Int32.toInt64 0), .long (Int32.toInt64 9)] w)).bind fun q1 => (bif rv_cnd .eq q1.1 0 then ((rv_ri (rv_EV 108 [.ref p, .int (-1000001)] q1.2)).bind fun q2 => some (some (.int q2.1), q2.2)) else (bif rv_cnd .eq n2 (-1) then rv_GO rc_X5_hold 32 [some (.ref p), some (.int n1), some (.int n2)] [] q1.2 else ((rv_ri (rv_EV 113 [.ref p, .int n2] q1.2)).bind fun q3 => (bif rv_cnd .ne q3.1 0 then rv_GO rc_X5_hold 32 [some (.ref p), some (.int n1), some (.int n2)] [] q3.2 else ((rv_ri (rv_EV 108 [.ref p, .int (-1000001)] q3.2)).bind fun q4 => some (some (.int q4.1), q4.2))))))) := by
  have e : rv_EV 194 [.ref p, .int n1, .int n2] w = rv_GO rc_X5_hold 0 [some (.ref p), some (.int n1), some (.int n2)] [] w := by
    show cond ((rv_obj w p 4).isSome && true) _ _ = _
    rw [hp]
    rfl
  rw [e, ← rv_blk_eq [32] 18]
  rfl
set_option maxRecDepth 100000 in
set_option maxHeartbeats 4000000 in
theorem bk_X5_hold_32 (v0 : Nat) (v1 : Int32) (v2 : Int32) (w : rv_W) : rv_GO rc_X5_hold 32 [some (.ref v0), some (.int v1), some (.int v2)] [] w = ((rv_ldFR w v0 4 0).bind fun a1 => ((rv_stI w a1 (86 + v1) v2).bind fun w2 => some (some (.int 1), w2))) := by
  rw [← rv_blk_eq [32] 10]
  rfl
set_option maxRecDepth 100000 in
set_option maxHeartbeats 4000000 in
theorem ev_X5_isUnder (n1 : Int32) (n2 : Int32) (w : rv_W) : rv_EV 195 [.int n1, .int n2] w = (bif rv_cnd .eq n2 0 then some (some (.int 1), w) else (bif rv_cnd .eq n1 n2 then some (some (.int 1), w) else (bif rv_cnd .ne n2 2 then rv_GO rc_X5_isUnder 24 [some (.int n1), some (.int n2)] [] w else (bif rv_cnd .eq n1 3 then some (some (.int 1), w) else (bif rv_cnd .eq n1 4 then some (some (.int 1), w) else rv_GO rc_X5_isUnder 24 [some (.int n1), some (.int n2)] [] w))))) := by
  have e : rv_EV 195 [.int n1, .int n2] w = rv_GO rc_X5_isUnder 0 [some (.int n1), some (.int n2)] [] w := by
    rfl
  rw [e, ← rv_blk_eq [24, 34] 18]
  rfl
set_option maxRecDepth 100000 in
set_option maxHeartbeats 4000000 in
theorem bk_X5_isUnder_24 (v0 : Int32) (v1 : Int32) (w : rv_W) : rv_GO rc_X5_isUnder 24 [some (.int v0), some (.int v1)] [] w = (bif rv_cnd .ne v1 3 then rv_GO rc_X5_isUnder 34 [some (.int v0), some (.int v1)] [] w else (bif rv_cnd .eq v0 4 then some (some (.int 1), w) else rv_GO rc_X5_isUnder 34 [some (.int v0), some (.int v1)] [] w)) := by
  rw [← rv_blk_eq [24, 34] 10]
  rfl
set_option maxRecDepth 100000 in
set_option maxHeartbeats 4000000 in
theorem bk_X5_isUnder_34 (v0 : Int32) (v1 : Int32) (w : rv_W) : rv_GO rc_X5_isUnder 34 [some (.int v0), some (.int v1)] [] w = (bif rv_cnd .ne v1 1 then some (some (.int 0), w) else (bif rv_cnd .ne v0 6 then some (some (.int 0), w) else some (some (.int 1), w))) := by
  rw [← rv_blk_eq [24, 34] 10]
  rfl
set_option maxRecDepth 100000 in
set_option maxHeartbeats 4000000 in
theorem ev_X5_as (p : Nat) (n1 : Int32) (n2 : Int32) (w : rv_W) (hp : (rv_obj w p 4).isSome = true) : rv_EV 196 [.ref p, .int n1, .int n2] w = ((rv_ri (rv_EV 107 [.long (Int32.toInt64 n1), .long (Int32.toInt64 0), .long (Int32.toInt64 9)] w)).bind fun q1 => (bif rv_cnd .eq q1.1 0 then ((rv_ri (rv_EV 108 [.ref p, .int (-1000001)] q1.2)).bind fun q2 => some (some (.int q2.1), q2.2)) else ((rv_ri (rv_EV 107 [.long (Int32.toInt64 n2), .long (Int32.toInt64 0), .long (Int32.toInt64 6)] q1.2)).bind fun q3 => (bif rv_cnd .ne q3.1 0 then ((rv_ldFR q3.2 p 4 0).bind fun a4 => ((rv_ldI q3.2 a4 (86 + n1)).bind fun x5 => (bif rv_cnd .ge x5 0 then ((rv_ri (rv_EV 114 [.ref p, .int x5, .int 0] q3.2)).bind fun q6 => ((rv_ri (rv_EV 195 [.int q6.1, .int n2] q6.2)).bind fun q7 => (bif rv_cnd .eq q7.1 0 then ((rv_ri (rv_EV 108 [.ref p, .int (-1000003)] q7.2)).bind fun q8 => some (some (.int q8.1), q8.2)) else some (some (.int x5), q7.2)))) else ((rv_ri (rv_EV 108 [.ref p, .int (-1000006)] q3.2)).bind fun q9 => some (some (.int q9.1), q9.2))))) else ((rv_ri (rv_EV 108 [.ref p, .int (-1000001)] q3.2)).bind fun q10 => some (some (.int q10.1), q10.2)))))) := by
  have e : rv_EV 196 [.ref p, .int n1, .int n2] w = rv_GO rc_X5_as 0 [some (.ref p), some (.int n1), some (.int n2), none] [] w := by
    show cond ((rv_obj w p 4).isSome && true) _ _ = _
    rw [hp]
    rfl
  rw [e, ← rv_blk_eq [] 33]
  rfl
set_option maxRecDepth 100000 in
set_option maxHeartbeats 4000000 in
theorem ev_X5_isSheet (n1 : Int32) (w : rv_W) : rv_EV 197 [.int n1] w = (bif rv_cnd .lt n1 0 then some (some (.int 0), w) else (bif rv_cnd .ge n1 4 then some (some (.int 0), w) else some (some (.int 1), w))) := by
  have e : rv_EV 197 [.int n1] w = rv_GO rc_X5_isSheet 0 [some (.int n1)] [] w := by
    rfl
  rw [e, ← rv_blk_eq [] 9]
  rfl
set_option maxRecDepth 100000 in
set_option maxHeartbeats 4000000 in
theorem ev_X5_sheet (p : Nat) (n1 : Int32) (n2 : Int32) (n3 : Int32) (w : rv_W) (hp : (rv_obj w p 4).isSome = true) : rv_EV 198 [.ref p, .int n1, .int n2, .int n3] w = ((rv_ri (rv_EV 197 [.int n1] w)).bind fun q1 => (bif rv_cnd .eq q1.1 0 then ((rv_ri (rv_EV 108 [.ref p, .int (-1000001)] q1.2)).bind fun q2 => some (some (.int q2.1), q2.2)) else (bif rv_cnd .eq n2 0 then rv_GO rc_X5_sheet 36 [some (.ref p), some (.int n1), some (.int n2), some (.int n3), none] [] q1.2 else (bif rv_cnd .eq n2 8 then rv_GO rc_X5_sheet 36 [some (.ref p), some (.int n1), some (.int n2), some (.int n3), none] [] q1.2 else (bif rv_cnd .eq n2 16 then rv_GO rc_X5_sheet 36 [some (.ref p), some (.int n1), some (.int n2), some (.int n3), none] [] q1.2 else (bif rv_cnd .eq n2 32 then rv_GO rc_X5_sheet 36 [some (.ref p), some (.int n1), some (.int n2), some (.int n3), none] [] q1.2 else ((rv_ri (rv_EV 108 [.ref p, .int (-1000001)] q1.2)).bind fun q3 => some (some (.int q3.1), q3.2)))))))) := by
  have e : rv_EV 198 [.ref p, .int n1, .int n2, .int n3] w = rv_GO rc_X5_sheet 0 [some (.ref p), some (.int n1), some (.int n2), some (.int n3), none] [] w := by
    show cond ((rv_obj w p 4).isSome && true) _ _ = _
    rw [hp]
    rfl
  rw [e, ← rv_blk_eq [36, 75, 94] 19]
  rfl
set_option maxRecDepth 100000 in
set_option maxHeartbeats 4000000 in
theorem bk_X5_sheet_36 (v0 : Nat) (v1 : Int32) (v2 : Int32) (v3 : Int32) (w : rv_W) : rv_GO rc_X5_sheet 36 [some (.ref v0), some (.int v1), some (.int v2), some (.int v3), none] [] w = (bif rv_cnd .ge v3 0 then (bif rv_cnd .le v3 40 then ((rv_ldFR w v0 4 8).bind fun a1 => (bif rv_cnd .ne v2 0 then rv_GO rc_X5_sheet 75 [some (.ref v0), some (.int v1), some (.int v2), some (.int v3), none] [.int v2, .int v1, .ref a1] w else rv_GO rc_X5_sheet 75 [some (.ref v0), some (.int v1), some (.int v2), some (.int v3), none] [.int (-1), .int v1, .ref a1] w)) else ((rv_ri (rv_EV 108 [.ref v0, .int (-1000001)] w)).bind fun q2 => some (some (.int q2.1), q2.2))) else ((rv_ri (rv_EV 108 [.ref v0, .int (-1000007)] w)).bind fun q3 => some (some (.int q3.1), q3.2))) := by
  rw [← rv_blk_eq [36, 75, 94] 14]
  rfl
set_option maxRecDepth 100000 in
set_option maxHeartbeats 4000000 in
theorem bk_X5_sheet_75 (v0 : Nat) (v1 : Int32) (v2 : Int32) (v3 : Int32) (s0 : Int32) (s1 : Int32) (s2 : Nat) (w : rv_W) : rv_GO rc_X5_sheet 75 [some (.ref v0), some (.int v1), some (.int v2), some (.int v3), none] [.int s0, .int s1, .ref s2] w = ((rv_stI w s2 s1 s0).bind fun w1 => ((rv_ldFR w1 v0 4 9).bind fun a2 => (bif rv_cnd .ne v2 0 then ((rv_stI w1 a2 v1 v3).bind fun w3 => rv_GO rc_X5_sheet 94 [some (.ref v0), some (.int v1), none, none, some (.int 0)] [] w3) else ((rv_stI w1 a2 v1 0).bind fun w4 => rv_GO rc_X5_sheet 94 [some (.ref v0), some (.int v1), none, none, some (.int 0)] [] w4)))) := by
  rw [← rv_blk_eq [36, 75, 94] 13]
  rfl
set_option maxRecDepth 100000 in
set_option maxHeartbeats 4000000 in
theorem bk_X5_sheet_94 (v0 : Nat) (v1 : Int32) (v4 : Int32) (w : rv_W) : rv_GO rc_X5_sheet 94 [some (.ref v0), some (.int v1), none, none, some (.int v4)] [] w = (bif rv_cnd .ge v4 40 then ((rv_ldFR w v0 4 9).bind fun a1 => ((rv_ldI w a1 v1).bind fun x2 => some (some (.int x2), w))) else ((rv_ldFR w v0 4 10).bind fun a3 => ((rv_stI w a3 ((40 * v1) + v4) 0).bind fun w4 => rv_GO rc_X5_sheet 94 [some (.ref v0), some (.int v1), none, none, some (.int (v4 + 1))] [] w4))) := by
  rw [← rv_blk_eq [36, 75, 94] 16]
  rfl
set_option maxRecDepth 100000 in
set_option maxHeartbeats 4000000 in
theorem ev_X5_write (p : Nat) (n1 : Int32) (n2 : Int32) (n3 : Int32) (w : rv_W) (hp : (rv_obj w p 4).isSome = true) : rv_EV 199 [.ref p, .int n1, .int n2, .int n3] w = ((rv_ri (rv_EV 197 [.int n1] w)).bind fun q1 => (bif rv_cnd .ne q1.1 0 then ((rv_ldFR q1.2 p 4 8).bind fun a2 => ((rv_ldI q1.2 a2 n1).bind fun x3 => (bif rv_cnd .ge x3 0 then ((rv_ldFR q1.2 p 4 9).bind fun a4 => ((rv_ldI q1.2 a4 n1).bind fun x5 => ((rv_ri (rv_EV 107 [.long (Int32.toInt64 n2), .long (Int32.toInt64 0), .long (Int32.toInt64 (x5 - 1))] q1.2)).bind fun q6 => (bif rv_cnd .ne q6.1 0 then ((rv_ldFR q6.2 p 4 10).bind fun a7 => ((rv_ldFR q6.2 p 4 8).bind fun a8 => ((rv_ldI q6.2 a8 n1).bind fun x9 => (bif rv_cnd .ne x9 8 then ((rv_ldFR q6.2 p 4 8).bind fun a10 => ((rv_ldI q6.2 a10 n1).bind fun x11 => (bif rv_cnd .ne x11 16 then ((rv_stI q6.2 a7 ((40 * n1) + n2) n3).bind fun w12 => some (some (.int 1), w12)) else ((rv_stI q6.2 a7 ((40 * n1) + n2) n3.toInt16.toInt32).bind fun w13 => some (some (.int 1), w13))))) else ((rv_stI q6.2 a7 ((40 * n1) + n2) n3.toInt8.toInt32).bind fun w14 => some (some (.int 1), w14)))))) else ((rv_ri (rv_EV 108 [.ref p, .int (-1000001)] q6.2)).bind fun q15 => some (some (.int q15.1), q15.2)))))) else ((rv_ri (rv_EV 108 [.ref p, .int (-1000006)] q1.2)).bind fun q16 => some (some (.int q16.1), q16.2))))) else ((rv_ri (rv_EV 108 [.ref p, .int (-1000001)] q1.2)).bind fun q17 => some (some (.int q17.1), q17.2)))) := by
  have e : rv_EV 199 [.ref p, .int n1, .int n2, .int n3] w = rv_GO rc_X5_write 0 [some (.ref p), some (.int n1), some (.int n2), some (.int n3)] [] w := by
    show cond ((rv_obj w p 4).isSome && true) _ _ = _
    rw [hp]
    rfl
  rw [e, ← rv_blk_eq [] 46]
  rfl
set_option maxRecDepth 100000 in
set_option maxHeartbeats 4000000 in
theorem ev_X5_copy (p : Nat) (n1 : Int32) (n2 : Int32) (n3 : Int32) (n4 : Int32) (n5 : Int32) (w : rv_W) (hp : (rv_obj w p 4).isSome = true) : rv_EV 200 [.ref p, .int n1, .int n2, .int n3, .int n4, .int n5] w = ((rv_ri (rv_EV 197 [.int n1] w)).bind fun q1 => (bif rv_cnd .eq q1.1 0 then ((rv_ri (rv_EV 108 [.ref p, .int (-1000001)] q1.2)).bind fun q2 => some (some (.int q2.1), q2.2)) else ((rv_ri (rv_EV 197 [.int n3] q1.2)).bind fun q3 => (bif rv_cnd .ne q3.1 0 then ((rv_ldFR q3.2 p 4 8).bind fun a4 => ((rv_ldI q3.2 a4 n1).bind fun x5 => (bif rv_cnd .lt x5 0 then ((rv_ri (rv_EV 108 [.ref p, .int (-1000006)] q3.2)).bind fun q6 => some (some (.int q6.1), q6.2)) else ((rv_ldFR q3.2 p 4 8).bind fun a7 => ((rv_ldI q3.2 a7 n3).bind fun x8 => (bif rv_cnd .ge x8 0 then ((rv_ldFR q3.2 p 4 8).bind fun a9 => ((rv_ldI q3.2 a9 n1).bind fun x10 => ((rv_ldFR q3.2 p 4 8).bind fun a11 => ((rv_ldI q3.2 a11 n3).bind fun x12 => (bif rv_cnd .eq x10 x12 then (bif rv_cnd .lt n2 0 then ((rv_ri (rv_EV 108 [.ref p, .int (-1000001)] q3.2)).bind fun q13 => some (some (.int q13.1), q13.2)) else (bif rv_cnd .lt n4 0 then ((rv_ri (rv_EV 108 [.ref p, .int (-1000001)] q3.2)).bind fun q14 => some (some (.int q14.1), q14.2)) else (bif rv_cnd .lt n5 0 then ((rv_ri (rv_EV 108 [.ref p, .int (-1000001)] q3.2)).bind fun q15 => some (some (.int q15.1), q15.2)) else ((rv_ldFR q3.2 p 4 9).bind fun a16 => ((rv_ldI q3.2 a16 n1).bind fun x17 => (bif rv_cnd .gt n5 (x17 - n2) then ((rv_ri (rv_EV 108 [.ref p, .int (-1000001)] q3.2)).bind fun q18 => some (some (.int q18.1), q18.2)) else ((rv_ldFR q3.2 p 4 9).bind fun a19 => ((rv_ldI q3.2 a19 n3).bind fun x20 => (bif rv_cnd .le n5 (x20 - n4) then rv_GO rc_X5_copy 138 [some (.ref p), none, none, none, none, some (.int n5), some (.int ((40 * n1) + n2)), some (.int ((40 * n3) + n4)), some (.int 0), none] [] q3.2 else ((rv_ri (rv_EV 108 [.ref p, .int (-1000001)] q3.2)).bind fun q21 => some (some (.int q21.1), q21.2))))))))))) else ((rv_ri (rv_EV 108 [.ref p, .int (-1000003)] q3.2)).bind fun q22 => some (some (.int q22.1), q22.2))))))) else ((rv_ri (rv_EV 108 [.ref p, .int (-1000006)] q3.2)).bind fun q23 => some (some (.int q23.1), q23.2)))))))) else ((rv_ri (rv_EV 108 [.ref p, .int (-1000001)] q3.2)).bind fun q24 => some (some (.int q24.1), q24.2)))))) := by
  have e : rv_EV 200 [.ref p, .int n1, .int n2, .int n3, .int n4, .int n5] w = rv_GO rc_X5_copy 0 [some (.ref p), some (.int n1), some (.int n2), some (.int n3), some (.int n4), some (.int n5), none, none, none, none] [] w := by
    show cond ((rv_obj w p 4).isSome && true) _ _ = _
    rw [hp]
    rfl
  rw [e, ← rv_blk_eq [138, 164] 63]
  rfl
set_option maxRecDepth 100000 in
set_option maxHeartbeats 4000000 in
theorem bk_X5_copy_138 (v0 : Nat) (v5 : Int32) (v6 : Int32) (v7 : Int32) (v8 : Int32) (w : rv_W) : rv_GO rc_X5_copy 138 [some (.ref v0), none, none, none, none, some (.int v5), some (.int v6), some (.int v7), some (.int v8), none] [] w = (bif rv_cnd .ge v8 v5 then some (some (.int v5), w) else (bif rv_cnd .ge v6 v7 then rv_GO rc_X5_copy 164 [some (.ref v0), none, none, none, none, some (.int v5), some (.int v6), some (.int v7), some (.int v8), none] [.int v8] w else rv_GO rc_X5_copy 164 [some (.ref v0), none, none, none, none, some (.int v5), some (.int v6), some (.int v7), some (.int v8), none] [.int ((v5 - 1) - v8)] w)) := by
  rw [← rv_blk_eq [138, 164] 14]
  rfl
set_option maxRecDepth 100000 in
set_option maxHeartbeats 4000000 in
theorem bk_X5_copy_164 (v0 : Nat) (v5 : Int32) (v6 : Int32) (v7 : Int32) (v8 : Int32) (s0 : Int32) (w : rv_W) : rv_GO rc_X5_copy 164 [some (.ref v0), none, none, none, none, some (.int v5), some (.int v6), some (.int v7), some (.int v8), none] [.int s0] w = ((rv_ldFR w v0 4 10).bind fun a1 => ((rv_ldFR w v0 4 10).bind fun a2 => ((rv_ldI w a2 (v6 + s0)).bind fun x3 => ((rv_stI w a1 (v7 + s0) x3).bind fun w4 => rv_GO rc_X5_copy 138 [some (.ref v0), none, none, none, none, some (.int v5), some (.int v6), some (.int v7), some (.int (v8 + 1)), none] [] w4)))) := by
  rw [← rv_blk_eq [138, 164] 17]
  rfl
set_option maxRecDepth 100000 in
set_option maxHeartbeats 4000000 in
theorem ev_X5_wants (p : Nat) (n1 : Int32) (w : rv_W) (hp : (rv_obj w p 4).isSome = true) : rv_EV 201 [.ref p, .int n1] w = ((rv_ri (rv_EV 197 [.int n1] w)).bind fun q1 => (bif rv_cnd .ne q1.1 0 then ((rv_ldFR q1.2 p 4 8).bind fun a2 => ((rv_ldI q1.2 a2 n1).bind fun x3 => (bif rv_cnd .ge x3 0 then some (some (.int 0), q1.2) else some (some (.int (-1000006)), q1.2)))) else some (some (.int (-1000001)), q1.2))) := by
  have e : rv_EV 201 [.ref p, .int n1] w = rv_GO rc_X5_wants 0 [some (.ref p), some (.int n1)] [] w := by
    show cond ((rv_obj w p 4).isSome && true) _ _ = _
    rw [hp]
    rfl
  rw [e, ← rv_blk_eq [] 12]
  rfl
set_option maxRecDepth 100000 in
set_option maxHeartbeats 4000000 in
theorem ev_X5_load (p : Nat) (n1 : Int32) (w : rv_W) (hp : (rv_obj w p 4).isSome = true) : rv_EV 202 [.ref p, .int n1] w = ((rv_ri (rv_EV 201 [.ref p, .int n1] w)).bind fun q1 => (bif rv_cnd .eq q1.1 0 then rv_GO rc_X5_load 20 [some (.ref p), some (.int n1), some (.int 0)] [] q1.2 else ((rv_ri (rv_EV 201 [.ref p, .int n1] q1.2)).bind fun q2 => ((rv_ri (rv_EV 108 [.ref p, .int q2.1] q2.2)).bind fun q3 => some (some (.int q3.1), q3.2))))) := by
  have e : rv_EV 202 [.ref p, .int n1] w = rv_GO rc_X5_load 0 [some (.ref p), some (.int n1), none] [] w := by
    show cond ((rv_obj w p 4).isSome && true) _ _ = _
    rw [hp]
    rfl
  rw [e, ← rv_blk_eq [20] 11]
  rfl
set_option maxRecDepth 100000 in
set_option maxHeartbeats 4000000 in
theorem bk_X5_load_20 (v0 : Nat) (v1 : Int32) (v2 : Int32) (w : rv_W) : rv_GO rc_X5_load 20 [some (.ref v0), some (.int v1), some (.int v2)] [] w = ((rv_ldFR w v0 4 9).bind fun a1 => ((rv_ldI w a1 v1).bind fun x2 => (bif rv_cnd .ge v2 x2 then some (some (.int v2), w) else (bif rv_cnd .ge v2 10 then some (some (.int v2), w) else ((rv_ldFR w v0 4 10).bind fun a3 => ((rv_ldI w a3 ((40 * v1) + v2)).bind fun x4 => ((rv_ri (rv_EV 107 [.long (Int32.toInt64 x4), .long (Int32.toInt64 0), .long (Int32.toInt64 99)] w)).bind fun q5 => (bif rv_cnd .eq q5.1 0 then some (some (.int v2), q5.2) else ((rv_ldFR q5.2 v0 4 0).bind fun a6 => ((rv_ldFR q5.2 v0 4 10).bind fun a7 => ((rv_ldI q5.2 a7 ((40 * v1) + v2)).bind fun x8 => ((rv_stI q5.2 a6 (4 + v2) x8).bind fun w9 => rv_GO rc_X5_load 20 [some (.ref v0), some (.int v1), some (.int (v2 + 1))] [] w9)))))))))))) := by
  rw [← rv_blk_eq [20] 40]
  rfl
set_option maxRecDepth 100000 in
set_option maxHeartbeats 4000000 in
theorem ev_X5_judge (p : Nat) (n1 : Int32) (w : rv_W) (hp : (rv_obj w p 4).isSome = true) : rv_EV 203 [.ref p, .int n1] w = ((rv_ri (rv_EV 201 [.ref p, .int n1] w)).bind fun q1 => (bif rv_cnd .eq q1.1 0 then rv_GO rc_X5_judge 20 [some (.ref p), some (.int n1), some (.int 0)] [] q1.2 else ((rv_ri (rv_EV 201 [.ref p, .int n1] q1.2)).bind fun q2 => ((rv_ri (rv_EV 108 [.ref p, .int q2.1] q2.2)).bind fun q3 => some (some (.int q3.1), q3.2))))) := by
  have e : rv_EV 203 [.ref p, .int n1] w = rv_GO rc_X5_judge 0 [some (.ref p), some (.int n1), none] [] w := by
    show cond ((rv_obj w p 4).isSome && true) _ _ = _
    rw [hp]
    rfl
  rw [e, ← rv_blk_eq [20, 64] 11]
  rfl
set_option maxRecDepth 100000 in
set_option maxHeartbeats 4000000 in
theorem bk_X5_judge_20 (v0 : Nat) (v1 : Int32) (v2 : Int32) (w : rv_W) : rv_GO rc_X5_judge 20 [some (.ref v0), some (.int v1), some (.int v2)] [] w = ((rv_ldFR w v0 4 9).bind fun a1 => ((rv_ldI w a1 v1).bind fun x2 => (bif rv_cnd .ge v2 x2 then rv_GO rc_X5_judge 64 [some (.ref v0), some (.int v1), some (.int v2)] [] w else ((rv_ri (rv_EV 113 [.ref v0, .int v2] w)).bind fun q3 => (bif rv_cnd .eq q3.1 0 then rv_GO rc_X5_judge 64 [some (.ref v0), some (.int v1), some (.int v2)] [] q3.2 else ((rv_ldFR q3.2 v0 4 10).bind fun a4 => ((rv_ldI q3.2 a4 ((40 * v1) + v2)).bind fun x5 => ((rv_ri (rv_EV 114 [.ref v0, .int v2, .int 3] q3.2)).bind fun q6 => (bif rv_cnd .ne x5 q6.1 then rv_GO rc_X5_judge 64 [some (.ref v0), some (.int v1), some (.int v2)] [] q6.2 else rv_GO rc_X5_judge 20 [some (.ref v0), some (.int v1), some (.int (v2 + 1))] [] q6.2))))))))) := by
  rw [← rv_blk_eq [20, 64] 27]
  rfl
set_option maxRecDepth 100000 in
set_option maxHeartbeats 4000000 in
theorem bk_X5_judge_64 (v0 : Nat) (v1 : Int32) (v2 : Int32) (w : rv_W) : rv_GO rc_X5_judge 64 [some (.ref v0), some (.int v1), some (.int v2)] [] w = ((rv_ldFR w v0 4 9).bind fun a1 => ((rv_ldI w a1 v1).bind fun x2 => (bif rv_cnd .ge v2 x2 then some (some (.int 0), w) else some (some (.int (1 + v2)), w)))) := by
  rw [← rv_blk_eq [20, 64] 12]
  rfl
set_option maxRecDepth 100000 in
set_option maxHeartbeats 4000000 in
theorem ev_X5_image (p : Nat) (w : rv_W) (hp : (rv_obj w p 4).isSome = true) : rv_EV 204 [.ref p] w = ((rv_ldFR w p 4 0).bind fun a1 => ((rv_ldFR w p 4 1).bind fun a2 => ((rv_rv (rv_EV 110 [.ref a1, .ref a2] w)).bind fun q3 => ((rv_stF q3 p 4 4 (.int 1)).bind fun w4 => some (some (.int 1), w4))))) := by
  have e : rv_EV 204 [.ref p] w = rv_GO rc_X5_image 0 [some (.ref p)] [] w := by
    show cond ((rv_obj w p 4).isSome && true) _ _ = _
    rw [hp]
    rfl
  rw [e, ← rv_blk_eq [] 11]
  rfl
set_option maxRecDepth 100000 in
set_option maxHeartbeats 4000000 in
theorem ev_X5_undo (p : Nat) (w : rv_W) (hp : (rv_obj w p 4).isSome = true) : rv_EV 205 [.ref p] w = ((rv_ldFI w p 4 4).bind fun x1 => (bif rv_cnd .ne x1 0 then ((rv_ldFR w p 4 1).bind fun a2 => ((rv_ldFR w p 4 0).bind fun a3 => ((rv_rv (rv_EV 110 [.ref a2, .ref a3] w)).bind fun q4 => ((rv_ldFR q4 p 4 0).bind fun a5 => ((rv_ldI q4 a5 1).bind fun x6 => some (some (.int x6), q4)))))) else ((rv_ri (rv_EV 108 [.ref p, .int (-1000004)] w)).bind fun q7 => some (some (.int q7.1), q7.2)))) := by
  have e : rv_EV 205 [.ref p] w = rv_GO rc_X5_undo 0 [some (.ref p)] [] w := by
    show cond ((rv_obj w p 4).isSome && true) _ _ = _
    rw [hp]
    rfl
  rw [e, ← rv_blk_eq [] 14]
  rfl
set_option maxRecDepth 100000 in
set_option maxHeartbeats 4000000 in
theorem ev_X5_tear (p : Nat) (w : rv_W) (hp : (rv_obj w p 4).isSome = true) : rv_EV 206 [.ref p] w = ((rv_ldFI w p 4 4).bind fun x1 => ((rv_stF w p 4 4 (.int 0)).bind fun w2 => (bif rv_cnd .eq x1 0 then some (some (.int 0), w2) else some (some (.int 1), w2)))) := by
  have e : rv_EV 206 [.ref p] w = rv_GO rc_X5_tear 0 [some (.ref p), none] [] w := by
    show cond ((rv_obj w p 4).isSome && true) _ _ = _
    rw [hp]
    rfl
  rw [e, ← rv_blk_eq [] 12]
  rfl
set_option maxRecDepth 100000 in
set_option maxHeartbeats 4000000 in
theorem ev_X5_count (p : Nat) (n1 : Int32) (w : rv_W) (hp : (rv_obj w p 4).isSome = true) : rv_EV 207 [.ref p, .int n1] w = (bif rv_eq n1 (Int32.ofInt 0) then ((rv_ldFR w p 4 0).bind fun a9 => ((rv_ldI w a9 1).bind fun x10 => some (some (.int x10), w))) else (bif rv_eq n1 (Int32.ofInt 1) then ((rv_ldFR w p 4 0).bind fun a7 => ((rv_ldI w a7 0).bind fun x8 => some (some (.int x8), w))) else (bif rv_eq n1 (Int32.ofInt 2) then rv_GO rc_X5_count 64 [some (.ref p), none, some (.int 0), some (.int 0)] [] w else (bif rv_eq n1 (Int32.ofInt 3) then ((rv_ri (rv_EV 141 [.ref p, .int 4, .int 10] w)).bind fun q6 => some (some (.int q6.1), q6.2)) else (bif rv_eq n1 (Int32.ofInt 4) then ((rv_ri (rv_EV 141 [.ref p, .int 14, .int 40] w)).bind fun q5 => some (some (.int q5.1), q5.2)) else (bif rv_eq n1 (Int32.ofInt 5) then ((rv_ldFI w p 4 7).bind fun x4 => some (some (.int x4), w)) else (bif rv_eq n1 (Int32.ofInt 6) then ((rv_ldFR w p 4 0).bind fun a2 => ((rv_ldI w a2 3).bind fun x3 => some (some (.int x3), w))) else (bif rv_eq n1 (Int32.ofInt 7) then rv_GO rc_X5_count 125 [some (.ref p), none, some (.int 0), some (.int 0)] [] w else ((rv_ri (rv_EV 108 [.ref p, .int (-1000001)] w)).bind fun q1 => some (some (.int q1.1), q1.2)))))))))) := by
  have e : rv_EV 207 [.ref p, .int n1] w = rv_GO rc_X5_count 0 [some (.ref p), some (.int n1), none, none] [] w := by
    show cond ((rv_obj w p 4).isSome && true) _ _ = _
    rw [hp]
    rfl
  rw [e, ← rv_blk_eq [64, 125] 10]
  rfl
set_option maxRecDepth 100000 in
set_option maxHeartbeats 4000000 in
theorem bk_X5_count_64 (v0 : Nat) (v2 : Int32) (v3 : Int32) (w : rv_W) : rv_GO rc_X5_count 64 [some (.ref v0), none, some (.int v2), some (.int v3)] [] w = ((rv_ldFR w v0 4 0).bind fun a1 => ((rv_ldI w a1 0).bind fun x2 => (bif rv_cnd .ge v3 x2 then some (some (.int v2), w) else ((rv_ri (rv_EV 114 [.ref v0, .int v3, .int 3] w)).bind fun q3 => ((rv_ri (rv_EV 116 [.int q3.1] q3.2)).bind fun q4 => rv_GO rc_X5_count 64 [some (.ref v0), none, some (.int (v2 + q4.1)), some (.int (v3 + 1))] [] q4.2))))) := by
  rw [← rv_blk_eq [64, 125] 18]
  rfl
set_option maxRecDepth 100000 in
set_option maxHeartbeats 4000000 in
theorem bk_X5_count_125 (v0 : Nat) (v2 : Int32) (v3 : Int32) (w : rv_W) : rv_GO rc_X5_count 125 [some (.ref v0), none, some (.int v2), some (.int v3)] [] w = (bif rv_cnd .ge v3 10 then some (some (.int v2), w) else ((rv_ldFR w v0 4 0).bind fun a1 => ((rv_ldI w a1 (86 + v3)).bind fun x2 => (bif rv_cnd .ge x2 0 then rv_GO rc_X5_count 125 [some (.ref v0), none, some (.int (v2 + 1)), some (.int (v3 + 1))] [] w else rv_GO rc_X5_count 125 [some (.ref v0), none, some (.int (v2 + 0)), some (.int (v3 + 1))] [] w)))) := by
  rw [← rv_blk_eq [64, 125] 19]
  rfl
set_option maxRecDepth 100000 in
set_option maxHeartbeats 4000000 in
theorem ev_X5_status (p : Nat) (n1 : Int32) (w : rv_W) (hp : (rv_obj w p 4).isSome = true) : rv_EV 208 [.ref p, .int n1] w = ((rv_ri (rv_EV 107 [.long (Int32.toInt64 n1), .long (Int32.toInt64 (-1)), .long (Int32.toInt64 6)] w)).bind fun q1 => (bif rv_cnd .eq q1.1 0 then ((rv_ri (rv_EV 108 [.ref p, .int (-1000001)] q1.2)).bind fun q2 => some (some (.int q2.1), q2.2)) else ((rv_ldFR q1.2 p 4 5).bind fun a3 => ((rv_ldI q1.2 a3 (n1 + 1)).bind fun x4 => some (some (.int x4), q1.2))))) := by
  have e : rv_EV 208 [.ref p, .int n1] w = rv_GO rc_X5_status 0 [some (.ref p), some (.int n1)] [] w := by
    show cond ((rv_obj w p 4).isSome && true) _ _ = _
    rw [hp]
    rfl
  rw [e, ← rv_blk_eq [] 15]
  rfl
