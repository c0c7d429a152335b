/-! THE SPEC, on rows: 0 bathers, 1 hour, 2 fresh, 3 z, 4.. warmth, 14.. scents, 54.. bathers (kind, tub, own, knows), 86.. spots -/
def popS (k : Nat) : Nat := k % 2 + k / 2 % 2 + k / 4 % 2 + k / 8 % 2 + k / 16 % 2 + k / 32 % 2 + k / 64 % 2 + k / 128 % 2
def mnL : Nat → Int32 → Int32 → Option Int32
  | 0, _, _ => none
  | n + 1, v, x => if x = 0 then some v else mnL n (v + 1) (x &&& (x - 1))
theorem mnL_pop : ∀ k : Fin 256, mnL 9 0 (nI k.val) = some (nI (popS k.val)) := by decide +kernel
theorem m_many_L : ∀ (n : Nat) (v x y : Int32) (w : rv_W), mnL n v x = some y → rv_GO rc_X5_many 4 [none, some (.int v), some (.int x)] [] w = some (some (.int y), w)
  | 0, _, _, _, _, h => by cases h
  | n + 1, v, x, y, w, h => by
    rw [mnL] at h
    rw [bk_X5_many_4]
    simp only [cb_eq, cb_ne, cb_lt, cb_ge, cb_gt, cb_le, cb_q, cb_qL, ri_s, rl_s, rr_s, rv_s, Option.bind_some, i10, cond_true, cond_false]
    by_cases hx : x = 0
    · rw [if_pos hx] at h ⊢
      cases h
      rfl
    · rw [if_neg hx] at h ⊢
      exact m_many_L n _ _ _ w h
theorem m_many {k : Nat} (hk : k < 256) (w : rv_W) : rv_EV 116 [.int (nI k)] w = some (some (.int (nI (popS k))), w) := by
  rw [ev_X5_many]
  exact m_many_L 9 _ _ _ w (mnL_pop ⟨k, hk⟩)
/-- a bather's numbers -/
def kdS (s : Nat → Int32) (b : Nat) : Nat := (s (54 + 4 * b + 0)).toNatClampNeg
def tbS (s : Nat → Int32) (b : Nat) : Nat := (s (54 + 4 * b + 1)).toNatClampNeg
def owS (s : Nat → Int32) (b : Nat) : Nat := (s (54 + 4 * b + 2)).toNatClampNeg
def knS (s : Nat → Int32) (b : Nat) : Nat := (s (54 + 4 * b + 3)).toNatClampNeg
def okB (s : Nat → Int32) (b : Nat) : Prop := (s (54 + 4 * b + 0) = nI (kdS s b) ∧ kdS s b < 7) ∧ (s (54 + 4 * b + 1) = nI (tbS s b) ∧ tbS s b < 10) ∧ (s (54 + 4 * b + 2) = nI (owS s b) ∧ owS s b < 4) ∧ (s (54 + 4 * b + 3) = nI (knS s b) ∧ knS s b < 16)
def addS (s : Nat → Int32) (b : Nat) : Int32 := match kdS s b with
  | 1 => 128
  | 2 => 32
  | 3 => 8
  | 4 => 8 + nI (popS (knS s b))
  | 5 => if s (14 + 4 * tbS s b + owS s b) = 0 then 64 else 0
  | 6 => 128 + s (4 + tbS s b)
  | _ => 64
def coolS (k : Nat) : Int32 := match k with
  | 1 => 8
  | 2 => 3
  | 3 => 3
  | 4 => 3
  | 5 => 10
  | 6 => 16
  | _ => 5
def noseS (k : Nat) : Int32 := match k with
  | 2 => 50
  | 3 => 30
  | 4 => 10
  | 5 => 400
  | 6 => 300
  | _ => 100
/-- what one smells: the set, behind c scents -/
def smlS (s : Nat → Int32) (b : Nat) : Nat → Int32
  | 0 => 0
  | c + 1 => smlS s b c ||| (if ¬ c = owS s b ∧ noseS (kdS s b) + (allS s (tbS s b) - s (14 + 4 * tbS s b + c)) / 8 ≤ s (14 + 4 * tbS s b + c) then 1 <<< (nI c &&& 31) else 0)
def flwS (s : Nat → Int32) : Nat → Int32 := fun i => if i = 4 then s 2 else if 4 < i ∧ i < 14 then (if s (i - 1) - 4 < 0 then 0 else s (i - 1) - 4) else if 14 ≤ i ∧ i < 18 then 0 else if 18 ≤ i ∧ i < 54 then s (i - 4) * 3 / 4 else s i
def coldS (s : Nat → Int32) (b : Nat) : Nat → Int32 := upd s (4 + tbS s b) (if s (4 + tbS s b) < coolS (kdS s b) then 0 else s (4 + tbS s b) - coolS (kdS s b))
def batS (s : Nat → Int32) (b : Nat) : Nat → Int32 := upd (coldS s b) (14 + 4 * tbS s b + owS s b) (if 9999 < coldS s b (14 + 4 * tbS s b + owS s b) + addS (coldS s b) b then 9999 else coldS s b (14 + 4 * tbS s b + owS s b) + addS (coldS s b) b)
def hereS (gone : Int32) (b : Nat) : Prop := (gone >>> (nI b &&& 31)) &&& 1 = 0
/-- bathers 0 .. n-1 bathe -/
def batsS (gone : Int32) (s : Nat → Int32) : Nat → Nat → Int32
  | 0 => s
  | b + 1 => if (gone >>> (nI b &&& 31)) &&& 1 = 0 then batS (batsS gone s b) b else batsS gone s b
/-- bathers 0 .. n-1 smell -/
def knoS (gone : Int32) (s : Nat → Int32) : Nat → Nat → Int32
  | 0 => s
  | b + 1 => if (gone >>> (nI b &&& 31)) &&& 1 = 0 then upd (knoS gone s b) (54 + 4 * b + 3) (knoS gone s b (54 + 4 * b + 3) ||| smlS (knoS gone s b) b 4) else knoS gone s b
def hourS (gone : Int32) (s : Nat → Int32) : Nat → Int32 := upd (knoS gone (batsS gone (flwS s) (s 0).toNatClampNeg) (s 0).toNatClampNeg) 1 (s 1 + 1)
def hoursS (gone : Int32) (s : Nat → Int32) : Nat → Nat → Int32
  | 0 => s
  | n + 1 => hourS gone (hoursS gone s n)
