/-! numberOfTrailingZeros. -/
theorem low_x {x t : Nat} (ht : x.testBit t = true) (hlo : ∀ i, i < t → x.testBit i = false) : x = 2 ^ (t + 1) * (x / 2 ^ (t + 1)) + 2 ^ t := by
  have h1 : x % 2 ^ (t + 1) = 2 ^ t := by
    apply Nat.eq_of_testBit_eq
    intro i
    rw [Nat.testBit_mod_two_pow, Nat.testBit_two_pow]
    by_cases h : i < t
    · rw [hlo i h, Bool.and_false, decide_eq_false (by omega)]
    · by_cases h2 : i = t
      · subst h2
        rw [ht, decide_eq_true (show i < i + 1 by omega), decide_eq_true rfl]; rfl
      · rw [decide_eq_false (show ¬ i < t + 1 by omega), decide_eq_false (show ¬ t = i by omega)]; rfl
  have h2 := Nat.div_add_mod x (2 ^ (t + 1))
  rw [h1] at h2
  exact h2.symm
theorem nI_m32 (x : Nat) : nI x = nI (x % 4294967296) := by
  apply Int32.toBitVec.inj
  show BitVec.ofNat 32 x = BitVec.ofNat 32 (x % 4294967296)
  apply BitVec.eq_of_toNat_eq
  rw [BitVec.toNat_ofNat, BitVec.toNat_ofNat]
  omega
theorem ntz_0 {S : mj_S} {h : mj_H} : Ex S jd_ntzI 8 [some (.int 0), none] [] h (Pu (.int (nI 0)) h) := by
  refine Ex_iload_n d_jd_ntzI_8 rfl ?_
  refine Ex_if_gtN (0) 17 d_jd_ntzI_9 rfl rfl (by omega) (fun hc9 => ?_) (fun hc9 => ?_)
  · exact absurd hc9 (by decide)
  · refine Ex_iload_n d_jd_ntzI_12 rfl ?_
    refine Ex_bipush d_jd_ntzI_13 bp_32 ?_
    refine Ex_iand d_jd_ntzI_15 ?_
    rw [show (((0 : Int32) &&& (32 : Int32)) : Int32) = (0 : Int32) from (by decide)]
    refine Ex_ireturn d_jd_ntzI_16 rfl ?_
    exact ⟨rfl, rfl⟩
theorem ntz_all {S : mj_S} {h : mj_H} : ∀ t : Nat, t < 32 → Ex S jd_ntzI 8 [some (.int (nI (2 ^ t - 1))), none] [] h (Pu (.int (nI t)) h) := by
  intro t ht
  by_cases h0 : t = 0
  · rw [h0, show nI (2 ^ 0 - 1) = (0 : Int32) from by decide]; exact ntz_0
  by_cases h1 : t = 1
  · rw [h1, show nI (2 ^ 1 - 1) = (1 : Int32) from by decide]; exact ntz_1
  by_cases h2 : t = 2
  · rw [h2, show nI (2 ^ 2 - 1) = (3 : Int32) from by decide]; exact ntz_2
  by_cases h3 : t = 3
  · rw [h3, show nI (2 ^ 3 - 1) = (7 : Int32) from by decide]; exact ntz_3
  by_cases h4 : t = 4
  · rw [h4, show nI (2 ^ 4 - 1) = (15 : Int32) from by decide]; exact ntz_4
  by_cases h5 : t = 5
  · rw [h5, show nI (2 ^ 5 - 1) = (31 : Int32) from by decide]; exact ntz_5
  by_cases h6 : t = 6
  · rw [h6, show nI (2 ^ 6 - 1) = (63 : Int32) from by decide]; exact ntz_6
  by_cases h7 : t = 7
  · rw [h7, show nI (2 ^ 7 - 1) = (127 : Int32) from by decide]; exact ntz_7
  by_cases h8 : t = 8
  · rw [h8, show nI (2 ^ 8 - 1) = (255 : Int32) from by decide]; exact ntz_8
  by_cases h9 : t = 9
  · rw [h9, show nI (2 ^ 9 - 1) = (511 : Int32) from by decide]; exact ntz_9
  by_cases h10 : t = 10
  · rw [h10, show nI (2 ^ 10 - 1) = (1023 : Int32) from by decide]; exact ntz_10
  by_cases h11 : t = 11
  · rw [h11, show nI (2 ^ 11 - 1) = (2047 : Int32) from by decide]; exact ntz_11
  by_cases h12 : t = 12
  · rw [h12, show nI (2 ^ 12 - 1) = (4095 : Int32) from by decide]; exact ntz_12
  by_cases h13 : t = 13
  · rw [h13, show nI (2 ^ 13 - 1) = (8191 : Int32) from by decide]; exact ntz_13
  by_cases h14 : t = 14
  · rw [h14, show nI (2 ^ 14 - 1) = (16383 : Int32) from by decide]; exact ntz_14
  by_cases h15 : t = 15
  · rw [h15, show nI (2 ^ 15 - 1) = (32767 : Int32) from by decide]; exact ntz_15
  by_cases h16 : t = 16
  · rw [h16, show nI (2 ^ 16 - 1) = (65535 : Int32) from by decide]; exact ntz_16
  by_cases h17 : t = 17
  · rw [h17, show nI (2 ^ 17 - 1) = (131071 : Int32) from by decide]; exact ntz_17
  by_cases h18 : t = 18
  · rw [h18, show nI (2 ^ 18 - 1) = (262143 : Int32) from by decide]; exact ntz_18
  by_cases h19 : t = 19
  · rw [h19, show nI (2 ^ 19 - 1) = (524287 : Int32) from by decide]; exact ntz_19
  by_cases h20 : t = 20
  · rw [h20, show nI (2 ^ 20 - 1) = (1048575 : Int32) from by decide]; exact ntz_20
  by_cases h21 : t = 21
  · rw [h21, show nI (2 ^ 21 - 1) = (2097151 : Int32) from by decide]; exact ntz_21
  by_cases h22 : t = 22
  · rw [h22, show nI (2 ^ 22 - 1) = (4194303 : Int32) from by decide]; exact ntz_22
  by_cases h23 : t = 23
  · rw [h23, show nI (2 ^ 23 - 1) = (8388607 : Int32) from by decide]; exact ntz_23
  by_cases h24 : t = 24
  · rw [h24, show nI (2 ^ 24 - 1) = (16777215 : Int32) from by decide]; exact ntz_24
  by_cases h25 : t = 25
  · rw [h25, show nI (2 ^ 25 - 1) = (33554431 : Int32) from by decide]; exact ntz_25
  by_cases h26 : t = 26
  · rw [h26, show nI (2 ^ 26 - 1) = (67108863 : Int32) from by decide]; exact ntz_26
  by_cases h27 : t = 27
  · rw [h27, show nI (2 ^ 27 - 1) = (134217727 : Int32) from by decide]; exact ntz_27
  by_cases h28 : t = 28
  · rw [h28, show nI (2 ^ 28 - 1) = (268435455 : Int32) from by decide]; exact ntz_28
  by_cases h29 : t = 29
  · rw [h29, show nI (2 ^ 29 - 1) = (536870911 : Int32) from by decide]; exact ntz_29
  by_cases h30 : t = 30
  · rw [h30, show nI (2 ^ 30 - 1) = (1073741823 : Int32) from by decide]; exact ntz_30
  by_cases h31 : t = 31
  · rw [h31, show nI (2 ^ 31 - 1) = (2147483647 : Int32) from by decide]; exact ntz_31
  omega
theorem jd_ntzI_s {S : mj_S} {h : mj_H} {t m : Nat} (ht : t < 32) (hx : 2 ^ (t + 1) * m + 2 ^ t < 4294967296) : Cl S jd_ntzI [.int (nI ((2 ^ (t + 1) * m + 2 ^ t)))] h (Pu (.int (nI t)) h) := by
  show Ex S jd_ntzI 0 [some (.int (nI ((2 ^ (t + 1) * m + 2 ^ t)))), none] [] h _
  refine Ex_iload_n d_jd_ntzI_0 rfl ?_
  refine Ex_iconst d_jd_ntzI_1 ic_m1 ?_
  refine Ex_ixor d_jd_ntzI_2 ?_
  refine Ex_iload_n d_jd_ntzI_3 rfl ?_
  refine Ex_iconst d_jd_ntzI_4 ic_1 ?_
  refine Ex_isub d_jd_ntzI_5 ?_
  refine Ex_iand d_jd_ntzI_6 ?_
  rw [show ((((nI ((2 ^ (t + 1) * m + 2 ^ t))) ^^^ (-1 : Int32)) &&& ((nI ((2 ^ (t + 1) * m + 2 ^ t))) - (1 : Int32))) : Int32) = (nI (2 ^ t - 1)) from (low_bit ht hx)]
  refine Ex_istore_n [some (.int (nI (2 ^ t - 1))), none] d_jd_ntzI_7 (Nat.le_of_ble_eq_true rfl) rfl ?_
  exact ntz_all t ht
theorem jd_ntzI_t {S : mj_S} {h : mj_H} {x t : Nat} (hx : x < 4294967296) (ht : x.testBit t = true) (hlo : ∀ i, i < t → x.testBit i = false) (h3 : t < 32) : Cl S jd_ntzI [.int (nI x)] h (Pu (.int (nI t)) h) := by
  have h1 := low_x ht hlo
  rw [h1] at hx ⊢
  exact jd_ntzI_s h3 hx
theorem z_mod {x t : Nat} (h3 : 32 ≤ t) (hlo : ∀ i, i < t → x.testBit i = false) : x % 4294967296 = 0 := by
  apply Nat.eq_of_testBit_eq
  intro i
  rw [show (4294967296 : Nat) = 2 ^ 32 from rfl, Nat.testBit_mod_two_pow, Nat.zero_testBit]
  by_cases h : i < 32
  · rw [hlo i (by omega), Bool.and_false]
  · rw [decide_eq_false h, Bool.false_and]
theorem jd_ntzL_s {S : mj_S} {h : mj_H} {x t : Nat} (hx : x < 18446744073709551616) (h64 : t < 64) (ht : x.testBit t = true) (hlo : ∀ i, i < t → x.testBit i = false) : Cl S jd_ntzL [.long (nL x)] h (Pu (.int (nI t)) h) := by
  show Ex S jd_ntzL 0 [some (.long (nL x)), none, none] [] h _
  refine Ex_lload_n d_jd_ntzL_0 rfl ?_
  refine Ex_l2i d_jd_ntzL_1 ?_
  rw [nL_i32]
  refine Ex_istore_n [some (.long (nL x)), none, some (.int (nI x))] d_jd_ntzL_2 (Nat.le_of_ble_eq_true rfl) rfl ?_
  refine Ex_iload_n d_jd_ntzL_3 rfl ?_
  refine Ex_if_ne 21 d_jd_ntzL_4 rfl (fun hc4 => ?_) (fun hc4 => ?_)
  · have h32 : t < 32 := by
      apply Classical.byContradiction
      intro h
      exact hc4 ((nI_m32 x).trans (by rw [z_mod (show 32 ≤ t by omega) hlo]; rfl))
    refine Ex_iload_n d_jd_ntzL_21 rfl ?_
    refine Ex_pS1 (v := .int (nI (t))) d_jd_ntzL_22 pk_jd_ntzL_311 (show Cl S jd_ntzI [.int (nI x)] h _ by rw [nI_m32 x]; exact jd_ntzI_t (by omega) (by rw [show (4294967296 : Nat) = 2 ^ 32 from rfl, Nat.testBit_mod_two_pow, decide_eq_true h32, ht]; rfl) (fun i hi => by rw [show (4294967296 : Nat) = 2 ^ 32 from rfl, Nat.testBit_mod_two_pow, hlo i hi, Bool.and_false]) h32) ?_
    refine Ex_ireturn d_jd_ntzL_25 rfl ?_
    exact ⟨by first | rfl | (rw [show 32 + (t - 32) = t by omega]), rfl⟩
  · have h32 : 32 ≤ t := by
      apply Classical.byContradiction
      intro h
      have h1 : nI (x % 4294967296) = nI 0 := (nI_m32 x).symm.trans (by first | exact hc4 | exact Classical.not_not.mp hc4)
      have h2 := nI_inj32 (by omega) (by decide) h1
      have h4 : (x % 2 ^ 32).testBit t = true := by rw [Nat.testBit_mod_two_pow, decide_eq_true (show t < 32 by omega), ht]; rfl
      rw [show x % 2 ^ 32 = 0 from h2, Nat.zero_testBit] at h4
      cases h4
    refine Ex_bipush d_jd_ntzL_7 bp_32 ?_
    refine Ex_lload_n d_jd_ntzL_9 rfl ?_
    refine Ex_bipush d_jd_ntzL_10 bp_32 ?_
    refine Ex_lushr d_jd_ntzL_12 ?_
    rw [show (((nL x).toUInt64 >>> ((32 : Int32).toInt64.toUInt64 &&& Int64.toUInt64 63)).toInt64 : Int64) = nL (x / 2 ^ 32) from (nL_ush hx (by decide) (by decide))]
    refine Ex_l2i d_jd_ntzL_13 ?_
    rw [nL_i32]
    refine Ex_pS1 (v := .int (nI (t - 32))) d_jd_ntzL_14 pk_jd_ntzL_311 (jd_ntzI_t (x := x / 2 ^ 32) (t := t - 32) (by show x / 4294967296 < 4294967296; omega) (by rw [Nat.testBit_div_two_pow, show t - 32 + 32 = t by omega]; exact ht) (fun i hi => by rw [Nat.testBit_div_two_pow]; exact hlo _ (by omega)) (by omega)) ?_
    refine Ex_iaddN (32) (t - 32) d_jd_ntzL_17 rfl rfl ?_
    refine Ex_goto 25 d_jd_ntzL_18 rfl ?_
    refine Ex_ireturn d_jd_ntzL_25 rfl ?_
    exact ⟨by first | rfl | (rw [show 32 + (t - 32) = t by omega]), rfl⟩
