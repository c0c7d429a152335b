/-! THE RELATION between the reference's world mR A s r and the class's cR S 0 s F rb: one row s for both -/
def spo (s : Nat → Int32) (n : Nat) : Prop := ∀ k, k < 10 → (s (86 + k) = -1 ∨ ∃ b, b < n ∧ s (86 + k) = nI b)
def Inv (h : Nat) (s : Nat → Int32) : Prop := (∃ n, n ≤ 8 ∧ s 0 = nI n ∧ okN s n ∧ spo s n) ∧ (∃ t, t ≤ h ∧ s 1 = nI t) ∧ wOK s ∧ s 96 = 0
def kepR (h : Nat) (A : Nat → Nat → Int32) (r : Nat → Int32) (S F : Nat → Nat → Int32) : Prop := (r 4 = 0 ∧ F 0 8 = 0) ∨ (r 4 = 1 ∧ F 0 8 = 1 ∧ (∀ i, i < 96 → A 2 i = S 1 i) ∧ Inv h (S 1))
def tapR (A : Nat → Nat → Int32) (r : Nat → Int32) (F : Nat → Nat → Int32) : Prop := ∃ n, n ≤ 120 ∧ r 7 = nI n ∧ F 0 7 = nI n ∧ ∀ k, k < n → (∃ m, m < 256 ∧ A 6 k = nI m) ∧ F 34 k = (A 6 k).toInt8.toInt32
def sheR (A F : Nat → Nat → Int32) (i : Nat) : Prop := (A 7 i = -1 ∧ F (sh i) 1 = 0) ∨ (∃ b n : Nat, (b = 8 ∨ b = 16 ∨ b = 32) ∧ n ≤ 40 ∧ A 7 i = nI b ∧ F (sh i) 1 = nI b ∧ A 8 i = nI n ∧ F (sh i) 2 = nI n ∧ ∀ k, k < 40 → A 9 (40 * i + k) = F (sn i) k)
def fndR (A F : Nat → Nat → Int32) : Prop := (∀ k, k < 7 → A 5 (k + 1) = F 37 k) ∧ A 5 0 = 0 + F 37 0 + F 37 1 + F 37 2 + F 37 3 + F 37 4 + F 37 5 + F 37 6
def Rel (h : Nat) (A : Nat → Nat → Int32) (r : Nat → Int32) (S F : Nat → Nat → Int32) (s : Nat → Int32) : Prop :=
  Inv h s ∧ kepR h A r S F ∧ tapR A r F ∧ (∀ i, i < 4 → sheR A F i) ∧ fndR A F
theorem Inv.mono {h h' : Nat} {s : Nat → Int32} (hh : h ≤ h') (i : Inv h s) : Inv h' s := by
  obtain ⟨h1, ⟨t, ht, e⟩, h3, h4⟩ := i
  exact ⟨h1, ⟨t, by omega, e⟩, h3, h4⟩
theorem Rel.mono {h h' : Nat} {A : Nat → Nat → Int32} {r : Nat → Int32} {S F : Nat → Nat → Int32} {s : Nat → Int32} (hh : h ≤ h') (i : Rel h A r S F s) : Rel h' A r S F s := by
  obtain ⟨h1, h2, h3⟩ := i
  refine ⟨h1.mono hh, ?_, h3⟩
  rcases h2 with h2 | ⟨a, b, c, d⟩
  · exact Or.inl h2
  · exact Or.inr ⟨a, b, c, d.mono hh⟩
/-- both answer alike, and go on alike -/
def Sim (h' : Nat) (km kc : Nat) (as : List Value) (A : Nat → Nat → Int32) (r : Nat → Int32) (S F : Nat → Nat → Int32) (rb : Nat) (s : Nat → Int32) : Prop :=
  ∃ (v : Value) (A' : Nat → Nat → Int32) (r' : Nat → Int32) (S' F' : Nat → Nat → Int32) (rb' : Nat) (s' : Nat → Int32), rv_EV km (.ref 0 :: as) (mR A s r) = some (some v, mR A' s' r') ∧ rv_EV kc (.ref 0 :: as) (cR S 0 s F rb) = some (some v, cR S' 0 s' F' rb') ∧ Rel h' A' r' S' F' s' ∧ ∃ x, v = .int x
/-- the same, with a long -/
def SimL (h' : Nat) (km kc : Nat) (as : List Value) (A : Nat → Nat → Int32) (r : Nat → Int32) (S F : Nat → Nat → Int32) (rb : Nat) (s : Nat → Int32) : Prop :=
  ∃ (v : Value) (A' : Nat → Nat → Int32) (r' : Nat → Int32) (S' F' : Nat → Nat → Int32) (rb' : Nat) (s' : Nat → Int32), rv_EV km (.ref 0 :: as) (mR A s r) = some (some v, mR A' s' r') ∧ rv_EV kc (.ref 0 :: as) (cR S 0 s F rb) = some (some v, cR S' 0 s' F' rb') ∧ Rel h' A' r' S' F' s' ∧ ∃ x, v = .long x
/-! findings -/
def cfd (F : Nat → Nat → Int32) (k : Nat) : Nat → Nat → Int32 := upB F 37 k (F 37 k + 1)
theorem fnd_up (A : Nat → Nat → Int32) (s : Nat → Int32) (k : Nat) : fnd (upA A 1 s) k = upA (fnd A k) 1 s := by
  funext p
  unfold fnd upB upA
  by_cases h : p = 5
  · subst h; simp
  · by_cases h1 : p = 1 <;> simp [h, h1]
theorem c_finding (S : Nat → Nat → Int32) (s : Nat → Int32) (F : Nat → Nat → Int32) (rb : Nat) {k : Nat} (hk : k < 7) : rv_EV 95 [.ref 0, .int (nI k)] (cR S 0 s F rb) = some (some (.int ((-1000001) - nI k)), cR S 0 s (cfd F k) rb) := by
  unfold cR
  rw [ev_X4_finding _ _ _ (obC _ F rb)]
  simp only [cb_eq, cb_ne, cb_lt, cb_ge, cb_gt, cb_le, cb_q, cb_qL, ri_s, rl_s, rr_s, rv_s, Option.bind_some, i10, cond_true, cond_false, lfC0, lfC1, lfC2, lfC3, lfC4, lfC5, lfC6, lgC7, lgC8, sgC7, sgC8, ldF _ F rb hk, stF _ F rb hk]
  rfl
theorem fnd_5 (A : Nat → Nat → Int32) {k : Nat} (hk : k < 7) (i : Nat) : fnd A k 5 i = if i = k + 1 then A 5 (k + 1) + 1 else if i = 0 then A 5 0 + 1 else A 5 i := by
  unfold fnd upB
  rw [upA_s]
  unfold upd
  rw [upA_s]
theorem fnd_n (A : Nat → Nat → Int32) (k : Nat) {p : Nat} (hp : ¬ p = 5) : fnd A k p = A p := by
  unfold fnd upB
  rw [upA_n _ hp, upA_n _ hp]
theorem rel_fnd {h : Nat} {A : Nat → Nat → Int32} {r : Nat → Int32} {S F : Nat → Nat → Int32} {s : Nat → Int32} (R : Rel h A r S F s) {k : Nat} (hk : k < 7) : Rel h (fnd A k) r S (cfd F k) s := by
  obtain ⟨h1, h2, h3, h4, h5⟩ := R
  have eF : ∀ p, ¬ p = 37 → cfd F k p = F p := fun p hp => upA_n F hp _
  refine ⟨h1, ?_, ?_, fun i hi => ?_, ?_⟩
  · unfold kepR at h2 ⊢
    rw [eF 0 (by decide), fnd_n A k (by decide)]
    exact h2
  · unfold tapR at h3 ⊢
    rw [eF 0 (by decide), eF 34 (by decide), fnd_n A k (by decide)]
    exact h3
  · have := h4 i hi
    unfold sheR at this ⊢
    rw [eF (sh i) (by unfold sh; omega), eF (sn i) (by unfold sn; omega), fnd_n A k (by decide), fnd_n A k (by decide), fnd_n A k (by decide)]
    exact this
  · obtain ⟨a, b⟩ := h5
    have e37 : ∀ i, cfd F k 37 i = if i = k then F 37 k + 1 else F 37 i := by
      intro i
      unfold cfd upB
      rw [upA_s]
      rfl
    refine ⟨fun i hi => ?_, ?_⟩
    · rw [fnd_5 A hk, e37]
      by_cases e : i = k
      · subst e
        rw [if_pos rfl, if_pos rfl, a i hi]
      · rw [if_neg (by omega), if_neg (by omega), if_neg e, a i hi]
    · rw [fnd_5 A hk, if_neg (by omega), if_pos rfl, b, e37, e37, e37, e37, e37, e37, e37]
      rcases (show k = 0 ∨ k = 1 ∨ k = 2 ∨ k = 3 ∨ k = 4 ∨ k = 5 ∨ k = 6 by omega) with rfl | rfl | rfl | rfl | rfl | rfl | rfl <;> simp <;> grind
/-- a finding on both sides -/
theorem sim_f {h : Nat} {km kc : Nat} {as : List Value} {A : Nat → Nat → Int32} {r : Nat → Int32} {S F : Nat → Nat → Int32} {rb : Nat} {s : Nat → Int32} (R : Rel h A r S F s) {k : Nat} (hk : k < 7) {x : Int32} (h1 : rv_EV km (.ref 0 :: as) (mR A s r) = some (some (.int x), mR (fnd A k) s r)) (h2 : rv_EV kc (.ref 0 :: as) (cR S 0 s F rb) = some (some (.int x), cR S 0 s (cfd F k) rb)) : Sim h km kc as A r S F rb s :=
  ⟨_, _, _, _, _, _, _, h1, h2, rel_fnd R hk, ⟨x, rfl⟩⟩
/-- only the row changes -/
theorem sim_r {h h' : Nat} {km kc : Nat} {as : List Value} {A : Nat → Nat → Int32} {r : Nat → Int32} {S F : Nat → Nat → Int32} {rb : Nat} {s s' : Nat → Int32} (R : Rel h A r S F s) (hh : h ≤ h') {x : Int32} (h1 : rv_EV km (.ref 0 :: as) (mR A s r) = some (some (.int x), mR A s' r)) (h2 : rv_EV kc (.ref 0 :: as) (cR S 0 s F rb) = some (some (.int x), cR S 0 s' F rb)) (hI : Inv h' s') : Sim h' km kc as A r S F rb s :=
  ⟨_, _, _, _, _, _, _, h1, h2, ⟨hI, (R.mono hh).2⟩, ⟨x, rfl⟩⟩
theorem r_f0 (A : Nat → Nat → Int32) (s r : Nat → Int32) : rv_EV 108 [.ref 0, .int (-1000001)] (mR A s r) = some (some (.int (-1000001)), mR (fnd A 0) s r) := (m_f0 (upA A 1 s) r).trans (by rw [fnd_up]; rfl)
theorem r_f1 (A : Nat → Nat → Int32) (s r : Nat → Int32) : rv_EV 108 [.ref 0, .int (-1000002)] (mR A s r) = some (some (.int (-1000002)), mR (fnd A 1) s r) := (m_f1 (upA A 1 s) r).trans (by rw [fnd_up]; rfl)
theorem r_f2 (A : Nat → Nat → Int32) (s r : Nat → Int32) : rv_EV 108 [.ref 0, .int (-1000003)] (mR A s r) = some (some (.int (-1000003)), mR (fnd A 2) s r) := (m_f2 (upA A 1 s) r).trans (by rw [fnd_up]; rfl)
theorem r_f3 (A : Nat → Nat → Int32) (s r : Nat → Int32) : rv_EV 108 [.ref 0, .int (-1000004)] (mR A s r) = some (some (.int (-1000004)), mR (fnd A 3) s r) := (m_f3 (upA A 1 s) r).trans (by rw [fnd_up]; rfl)
theorem r_f4 (A : Nat → Nat → Int32) (s r : Nat → Int32) : rv_EV 108 [.ref 0, .int (-1000005)] (mR A s r) = some (some (.int (-1000005)), mR (fnd A 4) s r) := (m_f4 (upA A 1 s) r).trans (by rw [fnd_up]; rfl)
theorem r_f5 (A : Nat → Nat → Int32) (s r : Nat → Int32) : rv_EV 108 [.ref 0, .int (-1000006)] (mR A s r) = some (some (.int (-1000006)), mR (fnd A 5) s r) := (m_f5 (upA A 1 s) r).trans (by rw [fnd_up]; rfl)
theorem r_f6 (A : Nat → Nat → Int32) (s r : Nat → Int32) : rv_EV 108 [.ref 0, .int (-1000007)] (mR A s r) = some (some (.int (-1000007)), mR (fnd A 6) s r) := (m_f6 (upA A 1 s) r).trans (by rw [fnd_up]; rfl)
theorem c_f0 (S : Nat → Nat → Int32) (s : Nat → Int32) (F : Nat → Nat → Int32) (rb : Nat) : rv_EV 95 [.ref 0, .int 0] (cR S 0 s F rb) = some (some (.int (-1000001)), cR S 0 s (cfd F 0) rb) := c_finding S s F rb (k := 0) (by decide)
theorem c_f1 (S : Nat → Nat → Int32) (s : Nat → Int32) (F : Nat → Nat → Int32) (rb : Nat) : rv_EV 95 [.ref 0, .int 1] (cR S 0 s F rb) = some (some (.int (-1000002)), cR S 0 s (cfd F 1) rb) := c_finding S s F rb (k := 1) (by decide)
theorem c_f2 (S : Nat → Nat → Int32) (s : Nat → Int32) (F : Nat → Nat → Int32) (rb : Nat) : rv_EV 95 [.ref 0, .int 2] (cR S 0 s F rb) = some (some (.int (-1000003)), cR S 0 s (cfd F 2) rb) := c_finding S s F rb (k := 2) (by decide)
theorem c_f3 (S : Nat → Nat → Int32) (s : Nat → Int32) (F : Nat → Nat → Int32) (rb : Nat) : rv_EV 95 [.ref 0, .int 3] (cR S 0 s F rb) = some (some (.int (-1000004)), cR S 0 s (cfd F 3) rb) := c_finding S s F rb (k := 3) (by decide)
theorem c_f4 (S : Nat → Nat → Int32) (s : Nat → Int32) (F : Nat → Nat → Int32) (rb : Nat) : rv_EV 95 [.ref 0, .int 4] (cR S 0 s F rb) = some (some (.int (-1000005)), cR S 0 s (cfd F 4) rb) := c_finding S s F rb (k := 4) (by decide)
theorem c_f5 (S : Nat → Nat → Int32) (s : Nat → Int32) (F : Nat → Nat → Int32) (rb : Nat) : rv_EV 95 [.ref 0, .int 5] (cR S 0 s F rb) = some (some (.int (-1000006)), cR S 0 s (cfd F 5) rb) := c_finding S s F rb (k := 5) (by decide)
theorem c_f6 (S : Nat → Nat → Int32) (s : Nat → Int32) (F : Nat → Nat → Int32) (rb : Nat) : rv_EV 95 [.ref 0, .int 6] (cR S 0 s F rb) = some (some (.int (-1000007)), cR S 0 s (cfd F 6) rb) := c_finding S s F rb (k := 6) (by decide)
/-! the class's tests -/
theorem c_isTub (x : Int32) (w : rv_W) : rv_EV 97 [.int x] w = some (some (.int (if 0 ≤ x ∧ x < 10 then 1 else 0)), w) := by
  rw [ev_X4_isTub]
  exact (ev_X5_isTub x w).symm.trans (m_isTub x w)
theorem c_isScent (x : Int32) (w : rv_W) : rv_EV 98 [.int x] w = some (some (.int (if 0 ≤ x ∧ x < 4 then 1 else 0)), w) := by
  rw [ev_X4_isScent]
  exact (ev_X5_isScent x w).symm.trans (m_isScent x w)
theorem c_isSpot (x : Int32) (w : rv_W) : rv_EV 99 [.int x] w = some (some (.int (if 0 ≤ x ∧ x < 10 then 1 else 0)), w) := by
  rw [ev_X4_isSpot]
  exact (ev_X5_isTub x w).symm.trans (m_isTub x w)
theorem c_isSheet (x : Int32) (w : rv_W) : rv_EV 100 [.int x] w = some (some (.int (if 0 ≤ x ∧ x < 4 then 1 else 0)), w) := by
  rw [ev_X4_isSheet]
  exact (ev_X5_isScent x w).symm.trans (m_isScent x w)
theorem c_isWithin (x m : Int32) (w : rv_W) : rv_EV 96 [.int x, .int m] w = some (some (.int (if 0 ≤ x ∧ x ≤ m then 1 else 0)), w) := by
  rw [ev_X4_isWithin]
  simp only [cb_eq, cb_ne, cb_lt, cb_ge, cb_gt, cb_le, cb_q, cb_qL, ri_s, rl_s, rr_s, rv_s, Option.bind_some, i10, cond_true, cond_false]
  by_cases h1 : x < 0
  · rw [if_pos h1, if_neg (fun q => absurd h1 (Int32.not_lt.mpr q.1))]
  · rw [if_neg h1]
    by_cases h2 : m < x
    · rw [if_pos h2, if_neg (fun q => absurd h2 (Int32.not_lt.mpr q.2))]
    · rw [if_neg h2, if_pos ⟨Int32.not_lt.mp h1, Int32.not_lt.mp h2⟩]
