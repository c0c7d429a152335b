theorem rv_ms_ok : ∀ (k : Nat) (M : rv_M), rv_ms[k]? = some M → ∃ q, rv_okM M q = true := sorry
