/-! A word without bits. -/
theorem wdL_0 (g : Nat → Bool) (w : Nat) : wdL g w = 0 ↔ ∀ i, i < 64 → g (64 * w + i) = false := by
  have hx : kbits (fun i => g (64 * w + i)) 64 < 18446744073709551616 := kbits_lt _ 64
  refine ⟨fun z i hi => ?_, fun z => ?_⟩
  · have h1 : kbits (fun i => g (64 * w + i)) 64 = 0 := nL_inj hx (by decide) (z.trans rfl)
    have h2 := kbits_tb (fun i => g (64 * w + i)) 64 i
    rw [h1, Nat.zero_testBit, decide_eq_true hi, Bool.true_and] at h2
    exact h2.symm
  · have h1 : kbits (fun i => g (64 * w + i)) 64 = 0 := by
      apply Nat.eq_of_testBit_eq
      intro i
      rw [kbits_tb, Nat.zero_testBit]
      by_cases hi : i < 64
      · rw [z i hi, Bool.and_false]
      · rw [decide_eq_false hi, Bool.false_and]
    unfold wdL
    rw [h1]
    rfl
