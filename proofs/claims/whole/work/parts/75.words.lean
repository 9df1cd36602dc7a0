/-! Words of bits. -/
theorem kbits_tb (f : Nat → Bool) : ∀ m i, (kbits f m).testBit i = (decide (i < m) && f i)
  | 0, i => by
    show (0 : Nat).testBit i = _
    rw [Nat.zero_testBit, decide_eq_false (Nat.not_lt_zero _), Bool.false_and]
  | m + 1, i => by
    have h1 : kbits f (m + 1) = 2 ^ m * (if f m = true then 1 else 0) + kbits f m := by
      show kbits f m + (if f m = true then 2 ^ m else 0) = _
      split <;> omega
    rw [h1, Nat.testBit_two_pow_mul_add _ (kbits_lt f m), kbits_tb f m i]
    by_cases h : i < m
    · rw [if_pos h, decide_eq_true h, decide_eq_true (show i < m + 1 by omega)]
    · rw [if_neg h]
      by_cases h2 : i = m
      · subst h2
        rw [Nat.sub_self, decide_eq_true (show i < i + 1 by omega), Bool.true_and]
        cases f i <;> rfl
      · rw [decide_eq_false (show ¬ i < m + 1 by omega), Bool.false_and]
        obtain ⟨d, hd⟩ : ∃ d, i - m = d + 1 := ⟨i - m - 1, by omega⟩
        rw [hd]
        split
        · rw [Nat.testBit_succ]; exact Nat.zero_testBit _
        · exact Nat.zero_testBit _
def wdL (g : Nat → Bool) (w : Nat) : Int64 := nL (kbits (fun i => g (64 * w + i)) 64)
theorem wdL_and (f g : Nat → Bool) (w : Nat) : wdL f w &&& wdL g w = wdL (fun c => f c && g c) w := by
  unfold wdL
  rw [nL_and]
  congr 1
  apply Nat.eq_of_testBit_eq
  intro i
  rw [Nat.testBit_and, kbits_tb, kbits_tb, kbits_tb]
  cases decide (i < 64) <;> simp
