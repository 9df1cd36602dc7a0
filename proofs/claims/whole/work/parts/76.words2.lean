/-! How many bits a word has, and its lowest. -/
theorem wdL_bc {S : mj_S} {h : mj_H} (g : Nat → Bool) (w : Nat) : Cl S jd_bcL [.long (wdL g w)] h (Pu (.int (nI (cnB g (64 * w) 64))) h) := by
  have hx : kbits (fun i => g (64 * w + i)) 64 < 18446744073709551616 := kbits_lt _ 64
  have z := jd_bcL_s (S := S) (h := h) hx
  rw [cnB_sh (k := g) 64 0 (64 * w) (fun i hi => by
    show (kbits (fun i => g (64 * w + i)) 64).testBit (0 + i) = g (64 * w + i)
    rw [Nat.zero_add, kbits_tb, decide_eq_true hi, Bool.true_and])] at z
  exact z
theorem wdL_nz {S : mj_S} {h : mj_H} (g : Nat → Bool) (w t : Nat) (ht : t < 64) (h1 : g (64 * w + t) = true) (h2 : ∀ i, i < t → g (64 * w + i) = false) : Cl S jd_ntzL [.long (wdL g w)] h (Pu (.int (nI t)) h) := by
  have hx : kbits (fun i => g (64 * w + i)) 64 < 18446744073709551616 := kbits_lt _ 64
  refine jd_ntzL_s hx ht ?_ (fun i hi => ?_)
  · rw [kbits_tb, decide_eq_true ht, h1]; rfl
  · rw [kbits_tb, h2 i hi, Bool.and_false]
