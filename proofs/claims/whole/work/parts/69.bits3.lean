/-! The lowest bit. -/
theorem low_bit {t m : Nat} (ht : t < 32) (hx : 2 ^ (t + 1) * m + 2 ^ t < 4294967296) : (nI (2 ^ (t + 1) * m + 2 ^ t) ^^^ (-1)) &&& (nI (2 ^ (t + 1) * m + 2 ^ t) - 1) = nI (2 ^ t - 1) := by
  have hp : 0 < 2 ^ t := Nat.pos_of_ne_zero (by simp)
  have hp2 : 2 ^ t < 2 ^ (t + 1) := by rw [Nat.pow_succ]; omega
  rw [show (1 : Int32) = nI 1 from rfl, nI_sub (by omega), show 2 ^ (t + 1) * m + 2 ^ t - 1 = 2 ^ (t + 1) * m + (2 ^ t - 1) by omega]
  apply Int32.toBitVec.inj
  show (BitVec.ofNat 32 (2 ^ (t + 1) * m + 2 ^ t) ^^^ BitVec.allOnes 32) &&& BitVec.ofNat 32 (2 ^ (t + 1) * m + (2 ^ t - 1)) = BitVec.ofNat 32 (2 ^ t - 1)
  apply BitVec.eq_of_getLsbD_eq
  intro i hi
  rw [BitVec.getLsbD_and, BitVec.getLsbD_xor, BitVec.getLsbD_allOnes, BitVec.getLsbD_ofNat, BitVec.getLsbD_ofNat, BitVec.getLsbD_ofNat, decide_eq_true hi, Bool.true_and, Bool.true_and, Bool.true_and, Nat.testBit_two_pow_mul_add m hp2, Nat.testBit_two_pow_mul_add m (show 2 ^ t - 1 < 2 ^ (t + 1) by omega), Nat.testBit_two_pow_sub_one]
  by_cases h : i < t + 1
  · rw [if_pos h, if_pos h, Nat.testBit_two_pow]
    by_cases h2 : i < t
    · rw [decide_eq_true h2, decide_eq_false (show ¬ t = i by omega)]; rfl
    · rw [decide_eq_false h2, Bool.and_false]
  · rw [if_neg h, if_neg h, decide_eq_false (show ¬ i < t by omega)]
    cases m.testBit (i - (t + 1)) <;> rfl
theorem odd_ex : ∀ x : Nat, x ≠ 0 → ∃ t m, x = 2 ^ (t + 1) * m + 2 ^ t := by
  intro x
  induction x using Nat.strongRecOn with
  | _ x ih =>
    intro hx
    by_cases h : x % 2 = 1
    · exact ⟨0, x / 2, by show x = 2 * (x / 2) + 1; omega⟩
    · obtain ⟨t, m, h1⟩ := ih (x / 2) (by omega) (by omega)
      refine ⟨t + 1, m, ?_⟩
      have h2 : x = 2 * (x / 2) := by omega
      rw [h2, h1, Nat.mul_add, Nat.pow_succ 2 (t + 1), Nat.pow_succ 2 t]
      rw [Nat.mul_comm 2 (2 ^ t * 2 * m), Nat.mul_comm 2 (2 ^ t), Nat.mul_assoc, Nat.mul_assoc, Nat.mul_assoc, Nat.mul_comm m 2, Nat.mul_assoc]
theorem ntz_1 {S : mj_S} {h : mj_H} : Ex S jd_ntzI 8 [some (.int (1)), none] [] h (Pu (.int (nI 1)) h) := by
  refine Ex_iload_n d_jd_ntzI_8 rfl ?_
  refine Ex_if_gtN (1) 17 d_jd_ntzI_9 rfl rfl (by omega) (fun hc9 => ?_) (fun hc9 => ?_)
  · refine Ex_iconst d_jd_ntzI_17 ic_1 ?_
    refine Ex_istore_n [some (.int (1)), some (.int (1))] d_jd_ntzI_18 (Nat.le_of_ble_eq_true rfl) rfl ?_
    refine Ex_iload_n d_jd_ntzI_19 rfl ?_
    refine Ex_ldc_w pi_jdInteger_264 d_jd_ntzI_20 ?_
    refine Ex_icmp_leN (1) (65536) 34 d_jd_ntzI_23 rfl rfl rfl (by omega) (by omega) (fun hc23 => ?_) (fun hc23 => ?_)
    · refine Ex_iload_n d_jd_ntzI_34 rfl ?_
      refine Ex_sipush d_jd_ntzI_35 sp_256 ?_
      refine Ex_icmp_leN (1) (256) 49 d_jd_ntzI_38 rfl rfl rfl (by omega) (by omega) (fun hc38 => ?_) (fun hc38 => ?_)
      · refine Ex_iload_n d_jd_ntzI_49 rfl ?_
        refine Ex_bipush d_jd_ntzI_50 bp_16 ?_
        refine Ex_icmp_leN (1) (16) 62 d_jd_ntzI_52 rfl rfl rfl (by omega) (by omega) (fun hc52 => ?_) (fun hc52 => ?_)
        · refine Ex_iload_n d_jd_ntzI_62 rfl ?_
          refine Ex_iconst d_jd_ntzI_63 ic_4 ?_
          refine Ex_icmp_leN (1) (4) 74 d_jd_ntzI_64 rfl rfl rfl (by omega) (by omega) (fun hc64 => ?_) (fun hc64 => ?_)
          · refine Ex_iload_n d_jd_ntzI_74 rfl ?_
            refine Ex_iload_n d_jd_ntzI_75 rfl ?_
            refine Ex_iconst d_jd_ntzI_76 ic_1 ?_
            refine Ex_iushr d_jd_ntzI_77 ?_
            rw [show ((((1 : Int32).toUInt32 >>> ((1 : Int32).toUInt32 &&& Int32.toUInt32 31)).toInt32) : Int32) = (0 : Int32) from (by decide)]
            refine Ex_iadd d_jd_ntzI_78 ?_
            refine Ex_ireturn d_jd_ntzI_79 rfl ?_
            exact ⟨rfl, rfl⟩
          · exact absurd hc64 (by decide)
        · exact absurd hc52 (by decide)
      · exact absurd hc38 (by decide)
    · exact absurd hc23 (by decide)
  · exact absurd hc9 (by decide)
theorem ntz_2 {S : mj_S} {h : mj_H} : Ex S jd_ntzI 8 [some (.int (3)), none] [] h (Pu (.int (nI 2)) h) := by
  refine Ex_iload_n d_jd_ntzI_8 rfl ?_
  refine Ex_if_gtN (3) 17 d_jd_ntzI_9 rfl rfl (by omega) (fun hc9 => ?_) (fun hc9 => ?_)
  · refine Ex_iconst d_jd_ntzI_17 ic_1 ?_
    refine Ex_istore_n [some (.int (3)), some (.int (1))] d_jd_ntzI_18 (Nat.le_of_ble_eq_true rfl) rfl ?_
    refine Ex_iload_n d_jd_ntzI_19 rfl ?_
    refine Ex_ldc_w pi_jdInteger_264 d_jd_ntzI_20 ?_
    refine Ex_icmp_leN (3) (65536) 34 d_jd_ntzI_23 rfl rfl rfl (by omega) (by omega) (fun hc23 => ?_) (fun hc23 => ?_)
    · refine Ex_iload_n d_jd_ntzI_34 rfl ?_
      refine Ex_sipush d_jd_ntzI_35 sp_256 ?_
      refine Ex_icmp_leN (3) (256) 49 d_jd_ntzI_38 rfl rfl rfl (by omega) (by omega) (fun hc38 => ?_) (fun hc38 => ?_)
      · refine Ex_iload_n d_jd_ntzI_49 rfl ?_
        refine Ex_bipush d_jd_ntzI_50 bp_16 ?_
        refine Ex_icmp_leN (3) (16) 62 d_jd_ntzI_52 rfl rfl rfl (by omega) (by omega) (fun hc52 => ?_) (fun hc52 => ?_)
        · refine Ex_iload_n d_jd_ntzI_62 rfl ?_
          refine Ex_iconst d_jd_ntzI_63 ic_4 ?_
          refine Ex_icmp_leN (3) (4) 74 d_jd_ntzI_64 rfl rfl rfl (by omega) (by omega) (fun hc64 => ?_) (fun hc64 => ?_)
          · refine Ex_iload_n d_jd_ntzI_74 rfl ?_
            refine Ex_iload_n d_jd_ntzI_75 rfl ?_
            refine Ex_iconst d_jd_ntzI_76 ic_1 ?_
            refine Ex_iushr d_jd_ntzI_77 ?_
            rw [show ((((3 : Int32).toUInt32 >>> ((1 : Int32).toUInt32 &&& Int32.toUInt32 31)).toInt32) : Int32) = (1 : Int32) from (by decide)]
            refine Ex_iadd d_jd_ntzI_78 ?_
            refine Ex_ireturn d_jd_ntzI_79 rfl ?_
            exact ⟨rfl, rfl⟩
          · exact absurd hc64 (by decide)
        · exact absurd hc52 (by decide)
      · exact absurd hc38 (by decide)
    · exact absurd hc23 (by decide)
  · exact absurd hc9 (by decide)
theorem ntz_3 {S : mj_S} {h : mj_H} : Ex S jd_ntzI 8 [some (.int (7)), none] [] h (Pu (.int (nI 3)) h) := by
  refine Ex_iload_n d_jd_ntzI_8 rfl ?_
  refine Ex_if_gtN (7) 17 d_jd_ntzI_9 rfl rfl (by omega) (fun hc9 => ?_) (fun hc9 => ?_)
  · refine Ex_iconst d_jd_ntzI_17 ic_1 ?_
    refine Ex_istore_n [some (.int (7)), some (.int (1))] d_jd_ntzI_18 (Nat.le_of_ble_eq_true rfl) rfl ?_
    refine Ex_iload_n d_jd_ntzI_19 rfl ?_
    refine Ex_ldc_w pi_jdInteger_264 d_jd_ntzI_20 ?_
    refine Ex_icmp_leN (7) (65536) 34 d_jd_ntzI_23 rfl rfl rfl (by omega) (by omega) (fun hc23 => ?_) (fun hc23 => ?_)
    · refine Ex_iload_n d_jd_ntzI_34 rfl ?_
      refine Ex_sipush d_jd_ntzI_35 sp_256 ?_
      refine Ex_icmp_leN (7) (256) 49 d_jd_ntzI_38 rfl rfl rfl (by omega) (by omega) (fun hc38 => ?_) (fun hc38 => ?_)
      · refine Ex_iload_n d_jd_ntzI_49 rfl ?_
        refine Ex_bipush d_jd_ntzI_50 bp_16 ?_
        refine Ex_icmp_leN (7) (16) 62 d_jd_ntzI_52 rfl rfl rfl (by omega) (by omega) (fun hc52 => ?_) (fun hc52 => ?_)
        · refine Ex_iload_n d_jd_ntzI_62 rfl ?_
          refine Ex_iconst d_jd_ntzI_63 ic_4 ?_
          refine Ex_icmp_leN (7) (4) 74 d_jd_ntzI_64 rfl rfl rfl (by omega) (by omega) (fun hc64 => ?_) (fun hc64 => ?_)
          · exact absurd hc64 (by decide)
          · refine Ex_iincN (1) 2 [some (.int (7)), some (.int (nI (1 + 2)))] d_jd_ntzI_67 rfl rfl rfl rfl ?_
            refine Ex_iload_n d_jd_ntzI_70 rfl ?_
            refine Ex_iconst d_jd_ntzI_71 ic_2 ?_
            refine Ex_iushr d_jd_ntzI_72 ?_
            rw [show ((((7 : Int32).toUInt32 >>> ((2 : Int32).toUInt32 &&& Int32.toUInt32 31)).toInt32) : Int32) = (1 : Int32) from (by decide)]
            refine Ex_istore_n [some (.int (1)), some (.int (nI (1 + 2)))] d_jd_ntzI_73 (Nat.le_of_ble_eq_true rfl) rfl ?_
            refine Ex_iload_n d_jd_ntzI_74 rfl ?_
            refine Ex_iload_n d_jd_ntzI_75 rfl ?_
            refine Ex_iconst d_jd_ntzI_76 ic_1 ?_
            refine Ex_iushr d_jd_ntzI_77 ?_
            rw [show ((((1 : Int32).toUInt32 >>> ((1 : Int32).toUInt32 &&& Int32.toUInt32 31)).toInt32) : Int32) = (0 : Int32) from (by decide)]
            refine Ex_iaddN (1 + 2) (0) d_jd_ntzI_78 rfl rfl ?_
            refine Ex_ireturn d_jd_ntzI_79 rfl ?_
            exact ⟨rfl, rfl⟩
        · exact absurd hc52 (by decide)
      · exact absurd hc38 (by decide)
    · exact absurd hc23 (by decide)
  · exact absurd hc9 (by decide)
theorem ntz_4 {S : mj_S} {h : mj_H} : Ex S jd_ntzI 8 [some (.int (15)), none] [] h (Pu (.int (nI 4)) h) := by
  refine Ex_iload_n d_jd_ntzI_8 rfl ?_
  refine Ex_if_gtN (15) 17 d_jd_ntzI_9 rfl rfl (by omega) (fun hc9 => ?_) (fun hc9 => ?_)
  · refine Ex_iconst d_jd_ntzI_17 ic_1 ?_
    refine Ex_istore_n [some (.int (15)), some (.int (1))] d_jd_ntzI_18 (Nat.le_of_ble_eq_true rfl) rfl ?_
    refine Ex_iload_n d_jd_ntzI_19 rfl ?_
    refine Ex_ldc_w pi_jdInteger_264 d_jd_ntzI_20 ?_
    refine Ex_icmp_leN (15) (65536) 34 d_jd_ntzI_23 rfl rfl rfl (by omega) (by omega) (fun hc23 => ?_) (fun hc23 => ?_)
    · refine Ex_iload_n d_jd_ntzI_34 rfl ?_
      refine Ex_sipush d_jd_ntzI_35 sp_256 ?_
      refine Ex_icmp_leN (15) (256) 49 d_jd_ntzI_38 rfl rfl rfl (by omega) (by omega) (fun hc38 => ?_) (fun hc38 => ?_)
      · refine Ex_iload_n d_jd_ntzI_49 rfl ?_
        refine Ex_bipush d_jd_ntzI_50 bp_16 ?_
        refine Ex_icmp_leN (15) (16) 62 d_jd_ntzI_52 rfl rfl rfl (by omega) (by omega) (fun hc52 => ?_) (fun hc52 => ?_)
        · refine Ex_iload_n d_jd_ntzI_62 rfl ?_
          refine Ex_iconst d_jd_ntzI_63 ic_4 ?_
          refine Ex_icmp_leN (15) (4) 74 d_jd_ntzI_64 rfl rfl rfl (by omega) (by omega) (fun hc64 => ?_) (fun hc64 => ?_)
          · exact absurd hc64 (by decide)
          · refine Ex_iincN (1) 2 [some (.int (15)), some (.int (nI (1 + 2)))] d_jd_ntzI_67 rfl rfl rfl rfl ?_
            refine Ex_iload_n d_jd_ntzI_70 rfl ?_
            refine Ex_iconst d_jd_ntzI_71 ic_2 ?_
            refine Ex_iushr d_jd_ntzI_72 ?_
            rw [show ((((15 : Int32).toUInt32 >>> ((2 : Int32).toUInt32 &&& Int32.toUInt32 31)).toInt32) : Int32) = (3 : Int32) from (by decide)]
            refine Ex_istore_n [some (.int (3)), some (.int (nI (1 + 2)))] d_jd_ntzI_73 (Nat.le_of_ble_eq_true rfl) rfl ?_
            refine Ex_iload_n d_jd_ntzI_74 rfl ?_
            refine Ex_iload_n d_jd_ntzI_75 rfl ?_
            refine Ex_iconst d_jd_ntzI_76 ic_1 ?_
            refine Ex_iushr d_jd_ntzI_77 ?_
            rw [show ((((3 : Int32).toUInt32 >>> ((1 : Int32).toUInt32 &&& Int32.toUInt32 31)).toInt32) : Int32) = (1 : Int32) from (by decide)]
            refine Ex_iaddN (1 + 2) (1) d_jd_ntzI_78 rfl rfl ?_
            refine Ex_ireturn d_jd_ntzI_79 rfl ?_
            exact ⟨rfl, rfl⟩
        · exact absurd hc52 (by decide)
      · exact absurd hc38 (by decide)
    · exact absurd hc23 (by decide)
  · exact absurd hc9 (by decide)
theorem ntz_5 {S : mj_S} {h : mj_H} : Ex S jd_ntzI 8 [some (.int (31)), none] [] h (Pu (.int (nI 5)) h) := by
  refine Ex_iload_n d_jd_ntzI_8 rfl ?_
  refine Ex_if_gtN (31) 17 d_jd_ntzI_9 rfl rfl (by omega) (fun hc9 => ?_) (fun hc9 => ?_)
  · refine Ex_iconst d_jd_ntzI_17 ic_1 ?_
    refine Ex_istore_n [some (.int (31)), some (.int (1))] d_jd_ntzI_18 (Nat.le_of_ble_eq_true rfl) rfl ?_
    refine Ex_iload_n d_jd_ntzI_19 rfl ?_
    refine Ex_ldc_w pi_jdInteger_264 d_jd_ntzI_20 ?_
    refine Ex_icmp_leN (31) (65536) 34 d_jd_ntzI_23 rfl rfl rfl (by omega) (by omega) (fun hc23 => ?_) (fun hc23 => ?_)
    · refine Ex_iload_n d_jd_ntzI_34 rfl ?_
      refine Ex_sipush d_jd_ntzI_35 sp_256 ?_
      refine Ex_icmp_leN (31) (256) 49 d_jd_ntzI_38 rfl rfl rfl (by omega) (by omega) (fun hc38 => ?_) (fun hc38 => ?_)
      · refine Ex_iload_n d_jd_ntzI_49 rfl ?_
        refine Ex_bipush d_jd_ntzI_50 bp_16 ?_
        refine Ex_icmp_leN (31) (16) 62 d_jd_ntzI_52 rfl rfl rfl (by omega) (by omega) (fun hc52 => ?_) (fun hc52 => ?_)
        · exact absurd hc52 (by decide)
        · refine Ex_iincN (1) 4 [some (.int (31)), some (.int (nI (1 + 4)))] d_jd_ntzI_55 rfl rfl rfl rfl ?_
          refine Ex_iload_n d_jd_ntzI_58 rfl ?_
          refine Ex_iconst d_jd_ntzI_59 ic_4 ?_
          refine Ex_iushr d_jd_ntzI_60 ?_
          rw [show ((((31 : Int32).toUInt32 >>> ((4 : Int32).toUInt32 &&& Int32.toUInt32 31)).toInt32) : Int32) = (1 : Int32) from (by decide)]
          refine Ex_istore_n [some (.int (1)), some (.int (nI (1 + 4)))] d_jd_ntzI_61 (Nat.le_of_ble_eq_true rfl) rfl ?_
          refine Ex_iload_n d_jd_ntzI_62 rfl ?_
          refine Ex_iconst d_jd_ntzI_63 ic_4 ?_
          refine Ex_icmp_leN (1) (4) 74 d_jd_ntzI_64 rfl rfl rfl (by omega) (by omega) (fun hc64 => ?_) (fun hc64 => ?_)
          · refine Ex_iload_n d_jd_ntzI_74 rfl ?_
            refine Ex_iload_n d_jd_ntzI_75 rfl ?_
            refine Ex_iconst d_jd_ntzI_76 ic_1 ?_
            refine Ex_iushr d_jd_ntzI_77 ?_
            rw [show ((((1 : Int32).toUInt32 >>> ((1 : Int32).toUInt32 &&& Int32.toUInt32 31)).toInt32) : Int32) = (0 : Int32) from (by decide)]
            refine Ex_iaddN (1 + 4) (0) d_jd_ntzI_78 rfl rfl ?_
            refine Ex_ireturn d_jd_ntzI_79 rfl ?_
            exact ⟨rfl, rfl⟩
          · exact absurd hc64 (by decide)
      · exact absurd hc38 (by decide)
    · exact absurd hc23 (by decide)
  · exact absurd hc9 (by decide)
theorem ntz_6 {S : mj_S} {h : mj_H} : Ex S jd_ntzI 8 [some (.int (63)), none] [] h (Pu (.int (nI 6)) h) := by
  refine Ex_iload_n d_jd_ntzI_8 rfl ?_
  refine Ex_if_gtN (63) 17 d_jd_ntzI_9 rfl rfl (by omega) (fun hc9 => ?_) (fun hc9 => ?_)
  · refine Ex_iconst d_jd_ntzI_17 ic_1 ?_
    refine Ex_istore_n [some (.int (63)), some (.int (1))] d_jd_ntzI_18 (Nat.le_of_ble_eq_true rfl) rfl ?_
    refine Ex_iload_n d_jd_ntzI_19 rfl ?_
    refine Ex_ldc_w pi_jdInteger_264 d_jd_ntzI_20 ?_
    refine Ex_icmp_leN (63) (65536) 34 d_jd_ntzI_23 rfl rfl rfl (by omega) (by omega) (fun hc23 => ?_) (fun hc23 => ?_)
    · refine Ex_iload_n d_jd_ntzI_34 rfl ?_
      refine Ex_sipush d_jd_ntzI_35 sp_256 ?_
      refine Ex_icmp_leN (63) (256) 49 d_jd_ntzI_38 rfl rfl rfl (by omega) (by omega) (fun hc38 => ?_) (fun hc38 => ?_)
      · refine Ex_iload_n d_jd_ntzI_49 rfl ?_
        refine Ex_bipush d_jd_ntzI_50 bp_16 ?_
        refine Ex_icmp_leN (63) (16) 62 d_jd_ntzI_52 rfl rfl rfl (by omega) (by omega) (fun hc52 => ?_) (fun hc52 => ?_)
        · exact absurd hc52 (by decide)
        · refine Ex_iincN (1) 4 [some (.int (63)), some (.int (nI (1 + 4)))] d_jd_ntzI_55 rfl rfl rfl rfl ?_
          refine Ex_iload_n d_jd_ntzI_58 rfl ?_
          refine Ex_iconst d_jd_ntzI_59 ic_4 ?_
          refine Ex_iushr d_jd_ntzI_60 ?_
          rw [show ((((63 : Int32).toUInt32 >>> ((4 : Int32).toUInt32 &&& Int32.toUInt32 31)).toInt32) : Int32) = (3 : Int32) from (by decide)]
          refine Ex_istore_n [some (.int (3)), some (.int (nI (1 + 4)))] d_jd_ntzI_61 (Nat.le_of_ble_eq_true rfl) rfl ?_
          refine Ex_iload_n d_jd_ntzI_62 rfl ?_
          refine Ex_iconst d_jd_ntzI_63 ic_4 ?_
          refine Ex_icmp_leN (3) (4) 74 d_jd_ntzI_64 rfl rfl rfl (by omega) (by omega) (fun hc64 => ?_) (fun hc64 => ?_)
          · refine Ex_iload_n d_jd_ntzI_74 rfl ?_
            refine Ex_iload_n d_jd_ntzI_75 rfl ?_
            refine Ex_iconst d_jd_ntzI_76 ic_1 ?_
            refine Ex_iushr d_jd_ntzI_77 ?_
            rw [show ((((3 : Int32).toUInt32 >>> ((1 : Int32).toUInt32 &&& Int32.toUInt32 31)).toInt32) : Int32) = (1 : Int32) from (by decide)]
            refine Ex_iaddN (1 + 4) (1) d_jd_ntzI_78 rfl rfl ?_
            refine Ex_ireturn d_jd_ntzI_79 rfl ?_
            exact ⟨rfl, rfl⟩
          · exact absurd hc64 (by decide)
      · exact absurd hc38 (by decide)
    · exact absurd hc23 (by decide)
  · exact absurd hc9 (by decide)
theorem ntz_7 {S : mj_S} {h : mj_H} : Ex S jd_ntzI 8 [some (.int (127)), none] [] h (Pu (.int (nI 7)) h) := by
  refine Ex_iload_n d_jd_ntzI_8 rfl ?_
  refine Ex_if_gtN (127) 17 d_jd_ntzI_9 rfl rfl (by omega) (fun hc9 => ?_) (fun hc9 => ?_)
  · refine Ex_iconst d_jd_ntzI_17 ic_1 ?_
    refine Ex_istore_n [some (.int (127)), some (.int (1))] d_jd_ntzI_18 (Nat.le_of_ble_eq_true rfl) rfl ?_
    refine Ex_iload_n d_jd_ntzI_19 rfl ?_
    refine Ex_ldc_w pi_jdInteger_264 d_jd_ntzI_20 ?_
    refine Ex_icmp_leN (127) (65536) 34 d_jd_ntzI_23 rfl rfl rfl (by omega) (by omega) (fun hc23 => ?_) (fun hc23 => ?_)
    · refine Ex_iload_n d_jd_ntzI_34 rfl ?_
      refine Ex_sipush d_jd_ntzI_35 sp_256 ?_
      refine Ex_icmp_leN (127) (256) 49 d_jd_ntzI_38 rfl rfl rfl (by omega) (by omega) (fun hc38 => ?_) (fun hc38 => ?_)
      · refine Ex_iload_n d_jd_ntzI_49 rfl ?_
        refine Ex_bipush d_jd_ntzI_50 bp_16 ?_
        refine Ex_icmp_leN (127) (16) 62 d_jd_ntzI_52 rfl rfl rfl (by omega) (by omega) (fun hc52 => ?_) (fun hc52 => ?_)
        · exact absurd hc52 (by decide)
        · refine Ex_iincN (1) 4 [some (.int (127)), some (.int (nI (1 + 4)))] d_jd_ntzI_55 rfl rfl rfl rfl ?_
          refine Ex_iload_n d_jd_ntzI_58 rfl ?_
          refine Ex_iconst d_jd_ntzI_59 ic_4 ?_
          refine Ex_iushr d_jd_ntzI_60 ?_
          rw [show ((((127 : Int32).toUInt32 >>> ((4 : Int32).toUInt32 &&& Int32.toUInt32 31)).toInt32) : Int32) = (7 : Int32) from (by decide)]
          refine Ex_istore_n [some (.int (7)), some (.int (nI (1 + 4)))] d_jd_ntzI_61 (Nat.le_of_ble_eq_true rfl) rfl ?_
          refine Ex_iload_n d_jd_ntzI_62 rfl ?_
          refine Ex_iconst d_jd_ntzI_63 ic_4 ?_
          refine Ex_icmp_leN (7) (4) 74 d_jd_ntzI_64 rfl rfl rfl (by omega) (by omega) (fun hc64 => ?_) (fun hc64 => ?_)
          · exact absurd hc64 (by decide)
          · refine Ex_iincN (1 + 4) 2 [some (.int (7)), some (.int (nI ((1 + 4) + 2)))] d_jd_ntzI_67 rfl rfl rfl rfl ?_
            refine Ex_iload_n d_jd_ntzI_70 rfl ?_
            refine Ex_iconst d_jd_ntzI_71 ic_2 ?_
            refine Ex_iushr d_jd_ntzI_72 ?_
            rw [show ((((7 : Int32).toUInt32 >>> ((2 : Int32).toUInt32 &&& Int32.toUInt32 31)).toInt32) : Int32) = (1 : Int32) from (by decide)]
            refine Ex_istore_n [some (.int (1)), some (.int (nI ((1 + 4) + 2)))] d_jd_ntzI_73 (Nat.le_of_ble_eq_true rfl) rfl ?_
            refine Ex_iload_n d_jd_ntzI_74 rfl ?_
            refine Ex_iload_n d_jd_ntzI_75 rfl ?_
            refine Ex_iconst d_jd_ntzI_76 ic_1 ?_
            refine Ex_iushr d_jd_ntzI_77 ?_
            rw [show ((((1 : Int32).toUInt32 >>> ((1 : Int32).toUInt32 &&& Int32.toUInt32 31)).toInt32) : Int32) = (0 : Int32) from (by decide)]
            refine Ex_iaddN ((1 + 4) + 2) (0) d_jd_ntzI_78 rfl rfl ?_
            refine Ex_ireturn d_jd_ntzI_79 rfl ?_
            exact ⟨rfl, rfl⟩
      · exact absurd hc38 (by decide)
    · exact absurd hc23 (by decide)
  · exact absurd hc9 (by decide)
theorem ntz_8 {S : mj_S} {h : mj_H} : Ex S jd_ntzI 8 [some (.int (255)), none] [] h (Pu (.int (nI 8)) h) := by
  refine Ex_iload_n d_jd_ntzI_8 rfl ?_
  refine Ex_if_gtN (255) 17 d_jd_ntzI_9 rfl rfl (by omega) (fun hc9 => ?_) (fun hc9 => ?_)
  · refine Ex_iconst d_jd_ntzI_17 ic_1 ?_
    refine Ex_istore_n [some (.int (255)), some (.int (1))] d_jd_ntzI_18 (Nat.le_of_ble_eq_true rfl) rfl ?_
    refine Ex_iload_n d_jd_ntzI_19 rfl ?_
    refine Ex_ldc_w pi_jdInteger_264 d_jd_ntzI_20 ?_
    refine Ex_icmp_leN (255) (65536) 34 d_jd_ntzI_23 rfl rfl rfl (by omega) (by omega) (fun hc23 => ?_) (fun hc23 => ?_)
    · refine Ex_iload_n d_jd_ntzI_34 rfl ?_
      refine Ex_sipush d_jd_ntzI_35 sp_256 ?_
      refine Ex_icmp_leN (255) (256) 49 d_jd_ntzI_38 rfl rfl rfl (by omega) (by omega) (fun hc38 => ?_) (fun hc38 => ?_)
      · refine Ex_iload_n d_jd_ntzI_49 rfl ?_
        refine Ex_bipush d_jd_ntzI_50 bp_16 ?_
        refine Ex_icmp_leN (255) (16) 62 d_jd_ntzI_52 rfl rfl rfl (by omega) (by omega) (fun hc52 => ?_) (fun hc52 => ?_)
        · exact absurd hc52 (by decide)
        · refine Ex_iincN (1) 4 [some (.int (255)), some (.int (nI (1 + 4)))] d_jd_ntzI_55 rfl rfl rfl rfl ?_
          refine Ex_iload_n d_jd_ntzI_58 rfl ?_
          refine Ex_iconst d_jd_ntzI_59 ic_4 ?_
          refine Ex_iushr d_jd_ntzI_60 ?_
          rw [show ((((255 : Int32).toUInt32 >>> ((4 : Int32).toUInt32 &&& Int32.toUInt32 31)).toInt32) : Int32) = (15 : Int32) from (by decide)]
          refine Ex_istore_n [some (.int (15)), some (.int (nI (1 + 4)))] d_jd_ntzI_61 (Nat.le_of_ble_eq_true rfl) rfl ?_
          refine Ex_iload_n d_jd_ntzI_62 rfl ?_
          refine Ex_iconst d_jd_ntzI_63 ic_4 ?_
          refine Ex_icmp_leN (15) (4) 74 d_jd_ntzI_64 rfl rfl rfl (by omega) (by omega) (fun hc64 => ?_) (fun hc64 => ?_)
          · exact absurd hc64 (by decide)
          · refine Ex_iincN (1 + 4) 2 [some (.int (15)), some (.int (nI ((1 + 4) + 2)))] d_jd_ntzI_67 rfl rfl rfl rfl ?_
            refine Ex_iload_n d_jd_ntzI_70 rfl ?_
            refine Ex_iconst d_jd_ntzI_71 ic_2 ?_
            refine Ex_iushr d_jd_ntzI_72 ?_
            rw [show ((((15 : Int32).toUInt32 >>> ((2 : Int32).toUInt32 &&& Int32.toUInt32 31)).toInt32) : Int32) = (3 : Int32) from (by decide)]
            refine Ex_istore_n [some (.int (3)), some (.int (nI ((1 + 4) + 2)))] d_jd_ntzI_73 (Nat.le_of_ble_eq_true rfl) rfl ?_
            refine Ex_iload_n d_jd_ntzI_74 rfl ?_
            refine Ex_iload_n d_jd_ntzI_75 rfl ?_
            refine Ex_iconst d_jd_ntzI_76 ic_1 ?_
            refine Ex_iushr d_jd_ntzI_77 ?_
            rw [show ((((3 : Int32).toUInt32 >>> ((1 : Int32).toUInt32 &&& Int32.toUInt32 31)).toInt32) : Int32) = (1 : Int32) from (by decide)]
            refine Ex_iaddN ((1 + 4) + 2) (1) d_jd_ntzI_78 rfl rfl ?_
            refine Ex_ireturn d_jd_ntzI_79 rfl ?_
            exact ⟨rfl, rfl⟩
      · exact absurd hc38 (by decide)
    · exact absurd hc23 (by decide)
  · exact absurd hc9 (by decide)
theorem ntz_9 {S : mj_S} {h : mj_H} : Ex S jd_ntzI 8 [some (.int (511)), none] [] h (Pu (.int (nI 9)) h) := by
  refine Ex_iload_n d_jd_ntzI_8 rfl ?_
  refine Ex_if_gtN (511) 17 d_jd_ntzI_9 rfl rfl (by omega) (fun hc9 => ?_) (fun hc9 => ?_)
  · refine Ex_iconst d_jd_ntzI_17 ic_1 ?_
    refine Ex_istore_n [some (.int (511)), some (.int (1))] d_jd_ntzI_18 (Nat.le_of_ble_eq_true rfl) rfl ?_
    refine Ex_iload_n d_jd_ntzI_19 rfl ?_
    refine Ex_ldc_w pi_jdInteger_264 d_jd_ntzI_20 ?_
    refine Ex_icmp_leN (511) (65536) 34 d_jd_ntzI_23 rfl rfl rfl (by omega) (by omega) (fun hc23 => ?_) (fun hc23 => ?_)
    · refine Ex_iload_n d_jd_ntzI_34 rfl ?_
      refine Ex_sipush d_jd_ntzI_35 sp_256 ?_
      refine Ex_icmp_leN (511) (256) 49 d_jd_ntzI_38 rfl rfl rfl (by omega) (by omega) (fun hc38 => ?_) (fun hc38 => ?_)
      · exact absurd hc38 (by decide)
      · refine Ex_iincN (1) 8 [some (.int (511)), some (.int (nI (1 + 8)))] d_jd_ntzI_41 rfl rfl rfl rfl ?_
        refine Ex_iload_n d_jd_ntzI_44 rfl ?_
        refine Ex_bipush d_jd_ntzI_45 bp_8 ?_
        refine Ex_iushr d_jd_ntzI_47 ?_
        rw [show ((((511 : Int32).toUInt32 >>> ((8 : Int32).toUInt32 &&& Int32.toUInt32 31)).toInt32) : Int32) = (1 : Int32) from (by decide)]
        refine Ex_istore_n [some (.int (1)), some (.int (nI (1 + 8)))] d_jd_ntzI_48 (Nat.le_of_ble_eq_true rfl) rfl ?_
        refine Ex_iload_n d_jd_ntzI_49 rfl ?_
        refine Ex_bipush d_jd_ntzI_50 bp_16 ?_
        refine Ex_icmp_leN (1) (16) 62 d_jd_ntzI_52 rfl rfl rfl (by omega) (by omega) (fun hc52 => ?_) (fun hc52 => ?_)
        · refine Ex_iload_n d_jd_ntzI_62 rfl ?_
          refine Ex_iconst d_jd_ntzI_63 ic_4 ?_
          refine Ex_icmp_leN (1) (4) 74 d_jd_ntzI_64 rfl rfl rfl (by omega) (by omega) (fun hc64 => ?_) (fun hc64 => ?_)
          · refine Ex_iload_n d_jd_ntzI_74 rfl ?_
            refine Ex_iload_n d_jd_ntzI_75 rfl ?_
            refine Ex_iconst d_jd_ntzI_76 ic_1 ?_
            refine Ex_iushr d_jd_ntzI_77 ?_
            rw [show ((((1 : Int32).toUInt32 >>> ((1 : Int32).toUInt32 &&& Int32.toUInt32 31)).toInt32) : Int32) = (0 : Int32) from (by decide)]
            refine Ex_iaddN (1 + 8) (0) d_jd_ntzI_78 rfl rfl ?_
            refine Ex_ireturn d_jd_ntzI_79 rfl ?_
            exact ⟨rfl, rfl⟩
          · exact absurd hc64 (by decide)
        · exact absurd hc52 (by decide)
    · exact absurd hc23 (by decide)
  · exact absurd hc9 (by decide)
theorem ntz_10 {S : mj_S} {h : mj_H} : Ex S jd_ntzI 8 [some (.int (1023)), none] [] h (Pu (.int (nI 10)) h) := by
  refine Ex_iload_n d_jd_ntzI_8 rfl ?_
  refine Ex_if_gtN (1023) 17 d_jd_ntzI_9 rfl rfl (by omega) (fun hc9 => ?_) (fun hc9 => ?_)
  · refine Ex_iconst d_jd_ntzI_17 ic_1 ?_
    refine Ex_istore_n [some (.int (1023)), some (.int (1))] d_jd_ntzI_18 (Nat.le_of_ble_eq_true rfl) rfl ?_
    refine Ex_iload_n d_jd_ntzI_19 rfl ?_
    refine Ex_ldc_w pi_jdInteger_264 d_jd_ntzI_20 ?_
    refine Ex_icmp_leN (1023) (65536) 34 d_jd_ntzI_23 rfl rfl rfl (by omega) (by omega) (fun hc23 => ?_) (fun hc23 => ?_)
    · refine Ex_iload_n d_jd_ntzI_34 rfl ?_
      refine Ex_sipush d_jd_ntzI_35 sp_256 ?_
      refine Ex_icmp_leN (1023) (256) 49 d_jd_ntzI_38 rfl rfl rfl (by omega) (by omega) (fun hc38 => ?_) (fun hc38 => ?_)
      · exact absurd hc38 (by decide)
      · refine Ex_iincN (1) 8 [some (.int (1023)), some (.int (nI (1 + 8)))] d_jd_ntzI_41 rfl rfl rfl rfl ?_
        refine Ex_iload_n d_jd_ntzI_44 rfl ?_
        refine Ex_bipush d_jd_ntzI_45 bp_8 ?_
        refine Ex_iushr d_jd_ntzI_47 ?_
        rw [show ((((1023 : Int32).toUInt32 >>> ((8 : Int32).toUInt32 &&& Int32.toUInt32 31)).toInt32) : Int32) = (3 : Int32) from (by decide)]
        refine Ex_istore_n [some (.int (3)), some (.int (nI (1 + 8)))] d_jd_ntzI_48 (Nat.le_of_ble_eq_true rfl) rfl ?_
        refine Ex_iload_n d_jd_ntzI_49 rfl ?_
        refine Ex_bipush d_jd_ntzI_50 bp_16 ?_
        refine Ex_icmp_leN (3) (16) 62 d_jd_ntzI_52 rfl rfl rfl (by omega) (by omega) (fun hc52 => ?_) (fun hc52 => ?_)
        · refine Ex_iload_n d_jd_ntzI_62 rfl ?_
          refine Ex_iconst d_jd_ntzI_63 ic_4 ?_
          refine Ex_icmp_leN (3) (4) 74 d_jd_ntzI_64 rfl rfl rfl (by omega) (by omega) (fun hc64 => ?_) (fun hc64 => ?_)
          · refine Ex_iload_n d_jd_ntzI_74 rfl ?_
            refine Ex_iload_n d_jd_ntzI_75 rfl ?_
            refine Ex_iconst d_jd_ntzI_76 ic_1 ?_
            refine Ex_iushr d_jd_ntzI_77 ?_
            rw [show ((((3 : Int32).toUInt32 >>> ((1 : Int32).toUInt32 &&& Int32.toUInt32 31)).toInt32) : Int32) = (1 : Int32) from (by decide)]
            refine Ex_iaddN (1 + 8) (1) d_jd_ntzI_78 rfl rfl ?_
            refine Ex_ireturn d_jd_ntzI_79 rfl ?_
            exact ⟨rfl, rfl⟩
          · exact absurd hc64 (by decide)
        · exact absurd hc52 (by decide)
    · exact absurd hc23 (by decide)
  · exact absurd hc9 (by decide)
theorem ntz_11 {S : mj_S} {h : mj_H} : Ex S jd_ntzI 8 [some (.int (2047)), none] [] h (Pu (.int (nI 11)) h) := by
  refine Ex_iload_n d_jd_ntzI_8 rfl ?_
  refine Ex_if_gtN (2047) 17 d_jd_ntzI_9 rfl rfl (by omega) (fun hc9 => ?_) (fun hc9 => ?_)
  · refine Ex_iconst d_jd_ntzI_17 ic_1 ?_
    refine Ex_istore_n [some (.int (2047)), some (.int (1))] d_jd_ntzI_18 (Nat.le_of_ble_eq_true rfl) rfl ?_
    refine Ex_iload_n d_jd_ntzI_19 rfl ?_
    refine Ex_ldc_w pi_jdInteger_264 d_jd_ntzI_20 ?_
    refine Ex_icmp_leN (2047) (65536) 34 d_jd_ntzI_23 rfl rfl rfl (by omega) (by omega) (fun hc23 => ?_) (fun hc23 => ?_)
    · refine Ex_iload_n d_jd_ntzI_34 rfl ?_
      refine Ex_sipush d_jd_ntzI_35 sp_256 ?_
      refine Ex_icmp_leN (2047) (256) 49 d_jd_ntzI_38 rfl rfl rfl (by omega) (by omega) (fun hc38 => ?_) (fun hc38 => ?_)
      · exact absurd hc38 (by decide)
      · refine Ex_iincN (1) 8 [some (.int (2047)), some (.int (nI (1 + 8)))] d_jd_ntzI_41 rfl rfl rfl rfl ?_
        refine Ex_iload_n d_jd_ntzI_44 rfl ?_
        refine Ex_bipush d_jd_ntzI_45 bp_8 ?_
        refine Ex_iushr d_jd_ntzI_47 ?_
        rw [show ((((2047 : Int32).toUInt32 >>> ((8 : Int32).toUInt32 &&& Int32.toUInt32 31)).toInt32) : Int32) = (7 : Int32) from (by decide)]
        refine Ex_istore_n [some (.int (7)), some (.int (nI (1 + 8)))] d_jd_ntzI_48 (Nat.le_of_ble_eq_true rfl) rfl ?_
        refine Ex_iload_n d_jd_ntzI_49 rfl ?_
        refine Ex_bipush d_jd_ntzI_50 bp_16 ?_
        refine Ex_icmp_leN (7) (16) 62 d_jd_ntzI_52 rfl rfl rfl (by omega) (by omega) (fun hc52 => ?_) (fun hc52 => ?_)
        · refine Ex_iload_n d_jd_ntzI_62 rfl ?_
          refine Ex_iconst d_jd_ntzI_63 ic_4 ?_
          refine Ex_icmp_leN (7) (4) 74 d_jd_ntzI_64 rfl rfl rfl (by omega) (by omega) (fun hc64 => ?_) (fun hc64 => ?_)
          · exact absurd hc64 (by decide)
          · refine Ex_iincN (1 + 8) 2 [some (.int (7)), some (.int (nI ((1 + 8) + 2)))] d_jd_ntzI_67 rfl rfl rfl rfl ?_
            refine Ex_iload_n d_jd_ntzI_70 rfl ?_
            refine Ex_iconst d_jd_ntzI_71 ic_2 ?_
            refine Ex_iushr d_jd_ntzI_72 ?_
            rw [show ((((7 : Int32).toUInt32 >>> ((2 : Int32).toUInt32 &&& Int32.toUInt32 31)).toInt32) : Int32) = (1 : Int32) from (by decide)]
            refine Ex_istore_n [some (.int (1)), some (.int (nI ((1 + 8) + 2)))] d_jd_ntzI_73 (Nat.le_of_ble_eq_true rfl) rfl ?_
            refine Ex_iload_n d_jd_ntzI_74 rfl ?_
            refine Ex_iload_n d_jd_ntzI_75 rfl ?_
            refine Ex_iconst d_jd_ntzI_76 ic_1 ?_
            refine Ex_iushr d_jd_ntzI_77 ?_
            rw [show ((((1 : Int32).toUInt32 >>> ((1 : Int32).toUInt32 &&& Int32.toUInt32 31)).toInt32) : Int32) = (0 : Int32) from (by decide)]
            refine Ex_iaddN ((1 + 8) + 2) (0) d_jd_ntzI_78 rfl rfl ?_
            refine Ex_ireturn d_jd_ntzI_79 rfl ?_
            exact ⟨rfl, rfl⟩
        · exact absurd hc52 (by decide)
    · exact absurd hc23 (by decide)
  · exact absurd hc9 (by decide)
theorem ntz_12 {S : mj_S} {h : mj_H} : Ex S jd_ntzI 8 [some (.int (4095)), none] [] h (Pu (.int (nI 12)) h) := by
  refine Ex_iload_n d_jd_ntzI_8 rfl ?_
  refine Ex_if_gtN (4095) 17 d_jd_ntzI_9 rfl rfl (by omega) (fun hc9 => ?_) (fun hc9 => ?_)
  · refine Ex_iconst d_jd_ntzI_17 ic_1 ?_
    refine Ex_istore_n [some (.int (4095)), some (.int (1))] d_jd_ntzI_18 (Nat.le_of_ble_eq_true rfl) rfl ?_
    refine Ex_iload_n d_jd_ntzI_19 rfl ?_
    refine Ex_ldc_w pi_jdInteger_264 d_jd_ntzI_20 ?_
    refine Ex_icmp_leN (4095) (65536) 34 d_jd_ntzI_23 rfl rfl rfl (by omega) (by omega) (fun hc23 => ?_) (fun hc23 => ?_)
    · refine Ex_iload_n d_jd_ntzI_34 rfl ?_
      refine Ex_sipush d_jd_ntzI_35 sp_256 ?_
      refine Ex_icmp_leN (4095) (256) 49 d_jd_ntzI_38 rfl rfl rfl (by omega) (by omega) (fun hc38 => ?_) (fun hc38 => ?_)
      · exact absurd hc38 (by decide)
      · refine Ex_iincN (1) 8 [some (.int (4095)), some (.int (nI (1 + 8)))] d_jd_ntzI_41 rfl rfl rfl rfl ?_
        refine Ex_iload_n d_jd_ntzI_44 rfl ?_
        refine Ex_bipush d_jd_ntzI_45 bp_8 ?_
        refine Ex_iushr d_jd_ntzI_47 ?_
        rw [show ((((4095 : Int32).toUInt32 >>> ((8 : Int32).toUInt32 &&& Int32.toUInt32 31)).toInt32) : Int32) = (15 : Int32) from (by decide)]
        refine Ex_istore_n [some (.int (15)), some (.int (nI (1 + 8)))] d_jd_ntzI_48 (Nat.le_of_ble_eq_true rfl) rfl ?_
        refine Ex_iload_n d_jd_ntzI_49 rfl ?_
        refine Ex_bipush d_jd_ntzI_50 bp_16 ?_
        refine Ex_icmp_leN (15) (16) 62 d_jd_ntzI_52 rfl rfl rfl (by omega) (by omega) (fun hc52 => ?_) (fun hc52 => ?_)
        · refine Ex_iload_n d_jd_ntzI_62 rfl ?_
          refine Ex_iconst d_jd_ntzI_63 ic_4 ?_
          refine Ex_icmp_leN (15) (4) 74 d_jd_ntzI_64 rfl rfl rfl (by omega) (by omega) (fun hc64 => ?_) (fun hc64 => ?_)
          · exact absurd hc64 (by decide)
          · refine Ex_iincN (1 + 8) 2 [some (.int (15)), some (.int (nI ((1 + 8) + 2)))] d_jd_ntzI_67 rfl rfl rfl rfl ?_
            refine Ex_iload_n d_jd_ntzI_70 rfl ?_
            refine Ex_iconst d_jd_ntzI_71 ic_2 ?_
            refine Ex_iushr d_jd_ntzI_72 ?_
            rw [show ((((15 : Int32).toUInt32 >>> ((2 : Int32).toUInt32 &&& Int32.toUInt32 31)).toInt32) : Int32) = (3 : Int32) from (by decide)]
            refine Ex_istore_n [some (.int (3)), some (.int (nI ((1 + 8) + 2)))] d_jd_ntzI_73 (Nat.le_of_ble_eq_true rfl) rfl ?_
            refine Ex_iload_n d_jd_ntzI_74 rfl ?_
            refine Ex_iload_n d_jd_ntzI_75 rfl ?_
            refine Ex_iconst d_jd_ntzI_76 ic_1 ?_
            refine Ex_iushr d_jd_ntzI_77 ?_
            rw [show ((((3 : Int32).toUInt32 >>> ((1 : Int32).toUInt32 &&& Int32.toUInt32 31)).toInt32) : Int32) = (1 : Int32) from (by decide)]
            refine Ex_iaddN ((1 + 8) + 2) (1) d_jd_ntzI_78 rfl rfl ?_
            refine Ex_ireturn d_jd_ntzI_79 rfl ?_
            exact ⟨rfl, rfl⟩
        · exact absurd hc52 (by decide)
    · exact absurd hc23 (by decide)
  · exact absurd hc9 (by decide)
theorem ntz_13 {S : mj_S} {h : mj_H} : Ex S jd_ntzI 8 [some (.int (8191)), none] [] h (Pu (.int (nI 13)) h) := by
  refine Ex_iload_n d_jd_ntzI_8 rfl ?_
  refine Ex_if_gtN (8191) 17 d_jd_ntzI_9 rfl rfl (by omega) (fun hc9 => ?_) (fun hc9 => ?_)
  · refine Ex_iconst d_jd_ntzI_17 ic_1 ?_
    refine Ex_istore_n [some (.int (8191)), some (.int (1))] d_jd_ntzI_18 (Nat.le_of_ble_eq_true rfl) rfl ?_
    refine Ex_iload_n d_jd_ntzI_19 rfl ?_
    refine Ex_ldc_w pi_jdInteger_264 d_jd_ntzI_20 ?_
    refine Ex_icmp_leN (8191) (65536) 34 d_jd_ntzI_23 rfl rfl rfl (by omega) (by omega) (fun hc23 => ?_) (fun hc23 => ?_)
    · refine Ex_iload_n d_jd_ntzI_34 rfl ?_
      refine Ex_sipush d_jd_ntzI_35 sp_256 ?_
      refine Ex_icmp_leN (8191) (256) 49 d_jd_ntzI_38 rfl rfl rfl (by omega) (by omega) (fun hc38 => ?_) (fun hc38 => ?_)
      · exact absurd hc38 (by decide)
      · refine Ex_iincN (1) 8 [some (.int (8191)), some (.int (nI (1 + 8)))] d_jd_ntzI_41 rfl rfl rfl rfl ?_
        refine Ex_iload_n d_jd_ntzI_44 rfl ?_
        refine Ex_bipush d_jd_ntzI_45 bp_8 ?_
        refine Ex_iushr d_jd_ntzI_47 ?_
        rw [show ((((8191 : Int32).toUInt32 >>> ((8 : Int32).toUInt32 &&& Int32.toUInt32 31)).toInt32) : Int32) = (31 : Int32) from (by decide)]
        refine Ex_istore_n [some (.int (31)), some (.int (nI (1 + 8)))] d_jd_ntzI_48 (Nat.le_of_ble_eq_true rfl) rfl ?_
        refine Ex_iload_n d_jd_ntzI_49 rfl ?_
        refine Ex_bipush d_jd_ntzI_50 bp_16 ?_
        refine Ex_icmp_leN (31) (16) 62 d_jd_ntzI_52 rfl rfl rfl (by omega) (by omega) (fun hc52 => ?_) (fun hc52 => ?_)
        · exact absurd hc52 (by decide)
        · refine Ex_iincN (1 + 8) 4 [some (.int (31)), some (.int (nI ((1 + 8) + 4)))] d_jd_ntzI_55 rfl rfl rfl rfl ?_
          refine Ex_iload_n d_jd_ntzI_58 rfl ?_
          refine Ex_iconst d_jd_ntzI_59 ic_4 ?_
          refine Ex_iushr d_jd_ntzI_60 ?_
          rw [show ((((31 : Int32).toUInt32 >>> ((4 : Int32).toUInt32 &&& Int32.toUInt32 31)).toInt32) : Int32) = (1 : Int32) from (by decide)]
          refine Ex_istore_n [some (.int (1)), some (.int (nI ((1 + 8) + 4)))] d_jd_ntzI_61 (Nat.le_of_ble_eq_true rfl) rfl ?_
          refine Ex_iload_n d_jd_ntzI_62 rfl ?_
          refine Ex_iconst d_jd_ntzI_63 ic_4 ?_
          refine Ex_icmp_leN (1) (4) 74 d_jd_ntzI_64 rfl rfl rfl (by omega) (by omega) (fun hc64 => ?_) (fun hc64 => ?_)
          · refine Ex_iload_n d_jd_ntzI_74 rfl ?_
            refine Ex_iload_n d_jd_ntzI_75 rfl ?_
            refine Ex_iconst d_jd_ntzI_76 ic_1 ?_
            refine Ex_iushr d_jd_ntzI_77 ?_
            rw [show ((((1 : Int32).toUInt32 >>> ((1 : Int32).toUInt32 &&& Int32.toUInt32 31)).toInt32) : Int32) = (0 : Int32) from (by decide)]
            refine Ex_iaddN ((1 + 8) + 4) (0) d_jd_ntzI_78 rfl rfl ?_
            refine Ex_ireturn d_jd_ntzI_79 rfl ?_
            exact ⟨rfl, rfl⟩
          · exact absurd hc64 (by decide)
    · exact absurd hc23 (by decide)
  · exact absurd hc9 (by decide)
theorem ntz_14 {S : mj_S} {h : mj_H} : Ex S jd_ntzI 8 [some (.int (16383)), none] [] h (Pu (.int (nI 14)) h) := by
  refine Ex_iload_n d_jd_ntzI_8 rfl ?_
  refine Ex_if_gtN (16383) 17 d_jd_ntzI_9 rfl rfl (by omega) (fun hc9 => ?_) (fun hc9 => ?_)
  · refine Ex_iconst d_jd_ntzI_17 ic_1 ?_
    refine Ex_istore_n [some (.int (16383)), some (.int (1))] d_jd_ntzI_18 (Nat.le_of_ble_eq_true rfl) rfl ?_
    refine Ex_iload_n d_jd_ntzI_19 rfl ?_
    refine Ex_ldc_w pi_jdInteger_264 d_jd_ntzI_20 ?_
    refine Ex_icmp_leN (16383) (65536) 34 d_jd_ntzI_23 rfl rfl rfl (by omega) (by omega) (fun hc23 => ?_) (fun hc23 => ?_)
    · refine Ex_iload_n d_jd_ntzI_34 rfl ?_
      refine Ex_sipush d_jd_ntzI_35 sp_256 ?_
      refine Ex_icmp_leN (16383) (256) 49 d_jd_ntzI_38 rfl rfl rfl (by omega) (by omega) (fun hc38 => ?_) (fun hc38 => ?_)
      · exact absurd hc38 (by decide)
      · refine Ex_iincN (1) 8 [some (.int (16383)), some (.int (nI (1 + 8)))] d_jd_ntzI_41 rfl rfl rfl rfl ?_
        refine Ex_iload_n d_jd_ntzI_44 rfl ?_
        refine Ex_bipush d_jd_ntzI_45 bp_8 ?_
        refine Ex_iushr d_jd_ntzI_47 ?_
        rw [show ((((16383 : Int32).toUInt32 >>> ((8 : Int32).toUInt32 &&& Int32.toUInt32 31)).toInt32) : Int32) = (63 : Int32) from (by decide)]
        refine Ex_istore_n [some (.int (63)), some (.int (nI (1 + 8)))] d_jd_ntzI_48 (Nat.le_of_ble_eq_true rfl) rfl ?_
        refine Ex_iload_n d_jd_ntzI_49 rfl ?_
        refine Ex_bipush d_jd_ntzI_50 bp_16 ?_
        refine Ex_icmp_leN (63) (16) 62 d_jd_ntzI_52 rfl rfl rfl (by omega) (by omega) (fun hc52 => ?_) (fun hc52 => ?_)
        · exact absurd hc52 (by decide)
        · refine Ex_iincN (1 + 8) 4 [some (.int (63)), some (.int (nI ((1 + 8) + 4)))] d_jd_ntzI_55 rfl rfl rfl rfl ?_
          refine Ex_iload_n d_jd_ntzI_58 rfl ?_
          refine Ex_iconst d_jd_ntzI_59 ic_4 ?_
          refine Ex_iushr d_jd_ntzI_60 ?_
          rw [show ((((63 : Int32).toUInt32 >>> ((4 : Int32).toUInt32 &&& Int32.toUInt32 31)).toInt32) : Int32) = (3 : Int32) from (by decide)]
          refine Ex_istore_n [some (.int (3)), some (.int (nI ((1 + 8) + 4)))] d_jd_ntzI_61 (Nat.le_of_ble_eq_true rfl) rfl ?_
          refine Ex_iload_n d_jd_ntzI_62 rfl ?_
          refine Ex_iconst d_jd_ntzI_63 ic_4 ?_
          refine Ex_icmp_leN (3) (4) 74 d_jd_ntzI_64 rfl rfl rfl (by omega) (by omega) (fun hc64 => ?_) (fun hc64 => ?_)
          · refine Ex_iload_n d_jd_ntzI_74 rfl ?_
            refine Ex_iload_n d_jd_ntzI_75 rfl ?_
            refine Ex_iconst d_jd_ntzI_76 ic_1 ?_
            refine Ex_iushr d_jd_ntzI_77 ?_
            rw [show ((((3 : Int32).toUInt32 >>> ((1 : Int32).toUInt32 &&& Int32.toUInt32 31)).toInt32) : Int32) = (1 : Int32) from (by decide)]
            refine Ex_iaddN ((1 + 8) + 4) (1) d_jd_ntzI_78 rfl rfl ?_
            refine Ex_ireturn d_jd_ntzI_79 rfl ?_
            exact ⟨rfl, rfl⟩
          · exact absurd hc64 (by decide)
    · exact absurd hc23 (by decide)
  · exact absurd hc9 (by decide)
theorem ntz_15 {S : mj_S} {h : mj_H} : Ex S jd_ntzI 8 [some (.int (32767)), none] [] h (Pu (.int (nI 15)) h) := by
  refine Ex_iload_n d_jd_ntzI_8 rfl ?_
  refine Ex_if_gtN (32767) 17 d_jd_ntzI_9 rfl rfl (by omega) (fun hc9 => ?_) (fun hc9 => ?_)
  · refine Ex_iconst d_jd_ntzI_17 ic_1 ?_
    refine Ex_istore_n [some (.int (32767)), some (.int (1))] d_jd_ntzI_18 (Nat.le_of_ble_eq_true rfl) rfl ?_
    refine Ex_iload_n d_jd_ntzI_19 rfl ?_
    refine Ex_ldc_w pi_jdInteger_264 d_jd_ntzI_20 ?_
    refine Ex_icmp_leN (32767) (65536) 34 d_jd_ntzI_23 rfl rfl rfl (by omega) (by omega) (fun hc23 => ?_) (fun hc23 => ?_)
    · refine Ex_iload_n d_jd_ntzI_34 rfl ?_
      refine Ex_sipush d_jd_ntzI_35 sp_256 ?_
      refine Ex_icmp_leN (32767) (256) 49 d_jd_ntzI_38 rfl rfl rfl (by omega) (by omega) (fun hc38 => ?_) (fun hc38 => ?_)
      · exact absurd hc38 (by decide)
      · refine Ex_iincN (1) 8 [some (.int (32767)), some (.int (nI (1 + 8)))] d_jd_ntzI_41 rfl rfl rfl rfl ?_
        refine Ex_iload_n d_jd_ntzI_44 rfl ?_
        refine Ex_bipush d_jd_ntzI_45 bp_8 ?_
        refine Ex_iushr d_jd_ntzI_47 ?_
        rw [show ((((32767 : Int32).toUInt32 >>> ((8 : Int32).toUInt32 &&& Int32.toUInt32 31)).toInt32) : Int32) = (127 : Int32) from (by decide)]
        refine Ex_istore_n [some (.int (127)), some (.int (nI (1 + 8)))] d_jd_ntzI_48 (Nat.le_of_ble_eq_true rfl) rfl ?_
        refine Ex_iload_n d_jd_ntzI_49 rfl ?_
        refine Ex_bipush d_jd_ntzI_50 bp_16 ?_
        refine Ex_icmp_leN (127) (16) 62 d_jd_ntzI_52 rfl rfl rfl (by omega) (by omega) (fun hc52 => ?_) (fun hc52 => ?_)
        · exact absurd hc52 (by decide)
        · refine Ex_iincN (1 + 8) 4 [some (.int (127)), some (.int (nI ((1 + 8) + 4)))] d_jd_ntzI_55 rfl rfl rfl rfl ?_
          refine Ex_iload_n d_jd_ntzI_58 rfl ?_
          refine Ex_iconst d_jd_ntzI_59 ic_4 ?_
          refine Ex_iushr d_jd_ntzI_60 ?_
          rw [show ((((127 : Int32).toUInt32 >>> ((4 : Int32).toUInt32 &&& Int32.toUInt32 31)).toInt32) : Int32) = (7 : Int32) from (by decide)]
          refine Ex_istore_n [some (.int (7)), some (.int (nI ((1 + 8) + 4)))] d_jd_ntzI_61 (Nat.le_of_ble_eq_true rfl) rfl ?_
          refine Ex_iload_n d_jd_ntzI_62 rfl ?_
          refine Ex_iconst d_jd_ntzI_63 ic_4 ?_
          refine Ex_icmp_leN (7) (4) 74 d_jd_ntzI_64 rfl rfl rfl (by omega) (by omega) (fun hc64 => ?_) (fun hc64 => ?_)
          · exact absurd hc64 (by decide)
          · refine Ex_iincN ((1 + 8) + 4) 2 [some (.int (7)), some (.int (nI (((1 + 8) + 4) + 2)))] d_jd_ntzI_67 rfl rfl rfl rfl ?_
            refine Ex_iload_n d_jd_ntzI_70 rfl ?_
            refine Ex_iconst d_jd_ntzI_71 ic_2 ?_
            refine Ex_iushr d_jd_ntzI_72 ?_
            rw [show ((((7 : Int32).toUInt32 >>> ((2 : Int32).toUInt32 &&& Int32.toUInt32 31)).toInt32) : Int32) = (1 : Int32) from (by decide)]
            refine Ex_istore_n [some (.int (1)), some (.int (nI (((1 + 8) + 4) + 2)))] d_jd_ntzI_73 (Nat.le_of_ble_eq_true rfl) rfl ?_
            refine Ex_iload_n d_jd_ntzI_74 rfl ?_
            refine Ex_iload_n d_jd_ntzI_75 rfl ?_
            refine Ex_iconst d_jd_ntzI_76 ic_1 ?_
            refine Ex_iushr d_jd_ntzI_77 ?_
            rw [show ((((1 : Int32).toUInt32 >>> ((1 : Int32).toUInt32 &&& Int32.toUInt32 31)).toInt32) : Int32) = (0 : Int32) from (by decide)]
            refine Ex_iaddN (((1 + 8) + 4) + 2) (0) d_jd_ntzI_78 rfl rfl ?_
            refine Ex_ireturn d_jd_ntzI_79 rfl ?_
            exact ⟨rfl, rfl⟩
    · exact absurd hc23 (by decide)
  · exact absurd hc9 (by decide)
theorem ntz_16 {S : mj_S} {h : mj_H} : Ex S jd_ntzI 8 [some (.int (65535)), none] [] h (Pu (.int (nI 16)) h) := by
  refine Ex_iload_n d_jd_ntzI_8 rfl ?_
  refine Ex_if_gtN (65535) 17 d_jd_ntzI_9 rfl rfl (by omega) (fun hc9 => ?_) (fun hc9 => ?_)
  · refine Ex_iconst d_jd_ntzI_17 ic_1 ?_
    refine Ex_istore_n [some (.int (65535)), some (.int (1))] d_jd_ntzI_18 (Nat.le_of_ble_eq_true rfl) rfl ?_
    refine Ex_iload_n d_jd_ntzI_19 rfl ?_
    refine Ex_ldc_w pi_jdInteger_264 d_jd_ntzI_20 ?_
    refine Ex_icmp_leN (65535) (65536) 34 d_jd_ntzI_23 rfl rfl rfl (by omega) (by omega) (fun hc23 => ?_) (fun hc23 => ?_)
    · refine Ex_iload_n d_jd_ntzI_34 rfl ?_
      refine Ex_sipush d_jd_ntzI_35 sp_256 ?_
      refine Ex_icmp_leN (65535) (256) 49 d_jd_ntzI_38 rfl rfl rfl (by omega) (by omega) (fun hc38 => ?_) (fun hc38 => ?_)
      · exact absurd hc38 (by decide)
      · refine Ex_iincN (1) 8 [some (.int (65535)), some (.int (nI (1 + 8)))] d_jd_ntzI_41 rfl rfl rfl rfl ?_
        refine Ex_iload_n d_jd_ntzI_44 rfl ?_
        refine Ex_bipush d_jd_ntzI_45 bp_8 ?_
        refine Ex_iushr d_jd_ntzI_47 ?_
        rw [show ((((65535 : Int32).toUInt32 >>> ((8 : Int32).toUInt32 &&& Int32.toUInt32 31)).toInt32) : Int32) = (255 : Int32) from (by decide)]
        refine Ex_istore_n [some (.int (255)), some (.int (nI (1 + 8)))] d_jd_ntzI_48 (Nat.le_of_ble_eq_true rfl) rfl ?_
        refine Ex_iload_n d_jd_ntzI_49 rfl ?_
        refine Ex_bipush d_jd_ntzI_50 bp_16 ?_
        refine Ex_icmp_leN (255) (16) 62 d_jd_ntzI_52 rfl rfl rfl (by omega) (by omega) (fun hc52 => ?_) (fun hc52 => ?_)
        · exact absurd hc52 (by decide)
        · refine Ex_iincN (1 + 8) 4 [some (.int (255)), some (.int (nI ((1 + 8) + 4)))] d_jd_ntzI_55 rfl rfl rfl rfl ?_
          refine Ex_iload_n d_jd_ntzI_58 rfl ?_
          refine Ex_iconst d_jd_ntzI_59 ic_4 ?_
          refine Ex_iushr d_jd_ntzI_60 ?_
          rw [show ((((255 : Int32).toUInt32 >>> ((4 : Int32).toUInt32 &&& Int32.toUInt32 31)).toInt32) : Int32) = (15 : Int32) from (by decide)]
          refine Ex_istore_n [some (.int (15)), some (.int (nI ((1 + 8) + 4)))] d_jd_ntzI_61 (Nat.le_of_ble_eq_true rfl) rfl ?_
          refine Ex_iload_n d_jd_ntzI_62 rfl ?_
          refine Ex_iconst d_jd_ntzI_63 ic_4 ?_
          refine Ex_icmp_leN (15) (4) 74 d_jd_ntzI_64 rfl rfl rfl (by omega) (by omega) (fun hc64 => ?_) (fun hc64 => ?_)
          · exact absurd hc64 (by decide)
          · refine Ex_iincN ((1 + 8) + 4) 2 [some (.int (15)), some (.int (nI (((1 + 8) + 4) + 2)))] d_jd_ntzI_67 rfl rfl rfl rfl ?_
            refine Ex_iload_n d_jd_ntzI_70 rfl ?_
            refine Ex_iconst d_jd_ntzI_71 ic_2 ?_
            refine Ex_iushr d_jd_ntzI_72 ?_
            rw [show ((((15 : Int32).toUInt32 >>> ((2 : Int32).toUInt32 &&& Int32.toUInt32 31)).toInt32) : Int32) = (3 : Int32) from (by decide)]
            refine Ex_istore_n [some (.int (3)), some (.int (nI (((1 + 8) + 4) + 2)))] d_jd_ntzI_73 (Nat.le_of_ble_eq_true rfl) rfl ?_
            refine Ex_iload_n d_jd_ntzI_74 rfl ?_
            refine Ex_iload_n d_jd_ntzI_75 rfl ?_
            refine Ex_iconst d_jd_ntzI_76 ic_1 ?_
            refine Ex_iushr d_jd_ntzI_77 ?_
            rw [show ((((3 : Int32).toUInt32 >>> ((1 : Int32).toUInt32 &&& Int32.toUInt32 31)).toInt32) : Int32) = (1 : Int32) from (by decide)]
            refine Ex_iaddN (((1 + 8) + 4) + 2) (1) d_jd_ntzI_78 rfl rfl ?_
            refine Ex_ireturn d_jd_ntzI_79 rfl ?_
            exact ⟨rfl, rfl⟩
    · exact absurd hc23 (by decide)
  · exact absurd hc9 (by decide)
theorem ntz_17 {S : mj_S} {h : mj_H} : Ex S jd_ntzI 8 [some (.int (131071)), none] [] h (Pu (.int (nI 17)) h) := by
  refine Ex_iload_n d_jd_ntzI_8 rfl ?_
  refine Ex_if_gtN (131071) 17 d_jd_ntzI_9 rfl rfl (by omega) (fun hc9 => ?_) (fun hc9 => ?_)
  · refine Ex_iconst d_jd_ntzI_17 ic_1 ?_
    refine Ex_istore_n [some (.int (131071)), some (.int (1))] d_jd_ntzI_18 (Nat.le_of_ble_eq_true rfl) rfl ?_
    refine Ex_iload_n d_jd_ntzI_19 rfl ?_
    refine Ex_ldc_w pi_jdInteger_264 d_jd_ntzI_20 ?_
    refine Ex_icmp_leN (131071) (65536) 34 d_jd_ntzI_23 rfl rfl rfl (by omega) (by omega) (fun hc23 => ?_) (fun hc23 => ?_)
    · exact absurd hc23 (by decide)
    · refine Ex_iincN (1) 16 [some (.int (131071)), some (.int (nI (1 + 16)))] d_jd_ntzI_26 rfl rfl rfl rfl ?_
      refine Ex_iload_n d_jd_ntzI_29 rfl ?_
      refine Ex_bipush d_jd_ntzI_30 bp_16 ?_
      refine Ex_iushr d_jd_ntzI_32 ?_
      rw [show ((((131071 : Int32).toUInt32 >>> ((16 : Int32).toUInt32 &&& Int32.toUInt32 31)).toInt32) : Int32) = (1 : Int32) from (by decide)]
      refine Ex_istore_n [some (.int (1)), some (.int (nI (1 + 16)))] d_jd_ntzI_33 (Nat.le_of_ble_eq_true rfl) rfl ?_
      refine Ex_iload_n d_jd_ntzI_34 rfl ?_
      refine Ex_sipush d_jd_ntzI_35 sp_256 ?_
      refine Ex_icmp_leN (1) (256) 49 d_jd_ntzI_38 rfl rfl rfl (by omega) (by omega) (fun hc38 => ?_) (fun hc38 => ?_)
      · refine Ex_iload_n d_jd_ntzI_49 rfl ?_
        refine Ex_bipush d_jd_ntzI_50 bp_16 ?_
        refine Ex_icmp_leN (1) (16) 62 d_jd_ntzI_52 rfl rfl rfl (by omega) (by omega) (fun hc52 => ?_) (fun hc52 => ?_)
        · refine Ex_iload_n d_jd_ntzI_62 rfl ?_
          refine Ex_iconst d_jd_ntzI_63 ic_4 ?_
          refine Ex_icmp_leN (1) (4) 74 d_jd_ntzI_64 rfl rfl rfl (by omega) (by omega) (fun hc64 => ?_) (fun hc64 => ?_)
          · refine Ex_iload_n d_jd_ntzI_74 rfl ?_
            refine Ex_iload_n d_jd_ntzI_75 rfl ?_
            refine Ex_iconst d_jd_ntzI_76 ic_1 ?_
            refine Ex_iushr d_jd_ntzI_77 ?_
            rw [show ((((1 : Int32).toUInt32 >>> ((1 : Int32).toUInt32 &&& Int32.toUInt32 31)).toInt32) : Int32) = (0 : Int32) from (by decide)]
            refine Ex_iaddN (1 + 16) (0) d_jd_ntzI_78 rfl rfl ?_
            refine Ex_ireturn d_jd_ntzI_79 rfl ?_
            exact ⟨rfl, rfl⟩
          · exact absurd hc64 (by decide)
        · exact absurd hc52 (by decide)
      · exact absurd hc38 (by decide)
  · exact absurd hc9 (by decide)
theorem ntz_18 {S : mj_S} {h : mj_H} : Ex S jd_ntzI 8 [some (.int (262143)), none] [] h (Pu (.int (nI 18)) h) := by
  refine Ex_iload_n d_jd_ntzI_8 rfl ?_
  refine Ex_if_gtN (262143) 17 d_jd_ntzI_9 rfl rfl (by omega) (fun hc9 => ?_) (fun hc9 => ?_)
  · refine Ex_iconst d_jd_ntzI_17 ic_1 ?_
    refine Ex_istore_n [some (.int (262143)), some (.int (1))] d_jd_ntzI_18 (Nat.le_of_ble_eq_true rfl) rfl ?_
    refine Ex_iload_n d_jd_ntzI_19 rfl ?_
    refine Ex_ldc_w pi_jdInteger_264 d_jd_ntzI_20 ?_
    refine Ex_icmp_leN (262143) (65536) 34 d_jd_ntzI_23 rfl rfl rfl (by omega) (by omega) (fun hc23 => ?_) (fun hc23 => ?_)
    · exact absurd hc23 (by decide)
    · refine Ex_iincN (1) 16 [some (.int (262143)), some (.int (nI (1 + 16)))] d_jd_ntzI_26 rfl rfl rfl rfl ?_
      refine Ex_iload_n d_jd_ntzI_29 rfl ?_
      refine Ex_bipush d_jd_ntzI_30 bp_16 ?_
      refine Ex_iushr d_jd_ntzI_32 ?_
      rw [show ((((262143 : Int32).toUInt32 >>> ((16 : Int32).toUInt32 &&& Int32.toUInt32 31)).toInt32) : Int32) = (3 : Int32) from (by decide)]
      refine Ex_istore_n [some (.int (3)), some (.int (nI (1 + 16)))] d_jd_ntzI_33 (Nat.le_of_ble_eq_true rfl) rfl ?_
      refine Ex_iload_n d_jd_ntzI_34 rfl ?_
      refine Ex_sipush d_jd_ntzI_35 sp_256 ?_
      refine Ex_icmp_leN (3) (256) 49 d_jd_ntzI_38 rfl rfl rfl (by omega) (by omega) (fun hc38 => ?_) (fun hc38 => ?_)
      · refine Ex_iload_n d_jd_ntzI_49 rfl ?_
        refine Ex_bipush d_jd_ntzI_50 bp_16 ?_
        refine Ex_icmp_leN (3) (16) 62 d_jd_ntzI_52 rfl rfl rfl (by omega) (by omega) (fun hc52 => ?_) (fun hc52 => ?_)
        · refine Ex_iload_n d_jd_ntzI_62 rfl ?_
          refine Ex_iconst d_jd_ntzI_63 ic_4 ?_
          refine Ex_icmp_leN (3) (4) 74 d_jd_ntzI_64 rfl rfl rfl (by omega) (by omega) (fun hc64 => ?_) (fun hc64 => ?_)
          · refine Ex_iload_n d_jd_ntzI_74 rfl ?_
            refine Ex_iload_n d_jd_ntzI_75 rfl ?_
            refine Ex_iconst d_jd_ntzI_76 ic_1 ?_
            refine Ex_iushr d_jd_ntzI_77 ?_
            rw [show ((((3 : Int32).toUInt32 >>> ((1 : Int32).toUInt32 &&& Int32.toUInt32 31)).toInt32) : Int32) = (1 : Int32) from (by decide)]
            refine Ex_iaddN (1 + 16) (1) d_jd_ntzI_78 rfl rfl ?_
            refine Ex_ireturn d_jd_ntzI_79 rfl ?_
            exact ⟨rfl, rfl⟩
          · exact absurd hc64 (by decide)
        · exact absurd hc52 (by decide)
      · exact absurd hc38 (by decide)
  · exact absurd hc9 (by decide)
theorem ntz_19 {S : mj_S} {h : mj_H} : Ex S jd_ntzI 8 [some (.int (524287)), none] [] h (Pu (.int (nI 19)) h) := by
  refine Ex_iload_n d_jd_ntzI_8 rfl ?_
  refine Ex_if_gtN (524287) 17 d_jd_ntzI_9 rfl rfl (by omega) (fun hc9 => ?_) (fun hc9 => ?_)
  · refine Ex_iconst d_jd_ntzI_17 ic_1 ?_
    refine Ex_istore_n [some (.int (524287)), some (.int (1))] d_jd_ntzI_18 (Nat.le_of_ble_eq_true rfl) rfl ?_
    refine Ex_iload_n d_jd_ntzI_19 rfl ?_
    refine Ex_ldc_w pi_jdInteger_264 d_jd_ntzI_20 ?_
    refine Ex_icmp_leN (524287) (65536) 34 d_jd_ntzI_23 rfl rfl rfl (by omega) (by omega) (fun hc23 => ?_) (fun hc23 => ?_)
    · exact absurd hc23 (by decide)
    · refine Ex_iincN (1) 16 [some (.int (524287)), some (.int (nI (1 + 16)))] d_jd_ntzI_26 rfl rfl rfl rfl ?_
      refine Ex_iload_n d_jd_ntzI_29 rfl ?_
      refine Ex_bipush d_jd_ntzI_30 bp_16 ?_
      refine Ex_iushr d_jd_ntzI_32 ?_
      rw [show ((((524287 : Int32).toUInt32 >>> ((16 : Int32).toUInt32 &&& Int32.toUInt32 31)).toInt32) : Int32) = (7 : Int32) from (by decide)]
      refine Ex_istore_n [some (.int (7)), some (.int (nI (1 + 16)))] d_jd_ntzI_33 (Nat.le_of_ble_eq_true rfl) rfl ?_
      refine Ex_iload_n d_jd_ntzI_34 rfl ?_
      refine Ex_sipush d_jd_ntzI_35 sp_256 ?_
      refine Ex_icmp_leN (7) (256) 49 d_jd_ntzI_38 rfl rfl rfl (by omega) (by omega) (fun hc38 => ?_) (fun hc38 => ?_)
      · refine Ex_iload_n d_jd_ntzI_49 rfl ?_
        refine Ex_bipush d_jd_ntzI_50 bp_16 ?_
        refine Ex_icmp_leN (7) (16) 62 d_jd_ntzI_52 rfl rfl rfl (by omega) (by omega) (fun hc52 => ?_) (fun hc52 => ?_)
        · refine Ex_iload_n d_jd_ntzI_62 rfl ?_
          refine Ex_iconst d_jd_ntzI_63 ic_4 ?_
          refine Ex_icmp_leN (7) (4) 74 d_jd_ntzI_64 rfl rfl rfl (by omega) (by omega) (fun hc64 => ?_) (fun hc64 => ?_)
          · exact absurd hc64 (by decide)
          · refine Ex_iincN (1 + 16) 2 [some (.int (7)), some (.int (nI ((1 + 16) + 2)))] d_jd_ntzI_67 rfl rfl rfl rfl ?_
            refine Ex_iload_n d_jd_ntzI_70 rfl ?_
            refine Ex_iconst d_jd_ntzI_71 ic_2 ?_
            refine Ex_iushr d_jd_ntzI_72 ?_
            rw [show ((((7 : Int32).toUInt32 >>> ((2 : Int32).toUInt32 &&& Int32.toUInt32 31)).toInt32) : Int32) = (1 : Int32) from (by decide)]
            refine Ex_istore_n [some (.int (1)), some (.int (nI ((1 + 16) + 2)))] d_jd_ntzI_73 (Nat.le_of_ble_eq_true rfl) rfl ?_
            refine Ex_iload_n d_jd_ntzI_74 rfl ?_
            refine Ex_iload_n d_jd_ntzI_75 rfl ?_
            refine Ex_iconst d_jd_ntzI_76 ic_1 ?_
            refine Ex_iushr d_jd_ntzI_77 ?_
            rw [show ((((1 : Int32).toUInt32 >>> ((1 : Int32).toUInt32 &&& Int32.toUInt32 31)).toInt32) : Int32) = (0 : Int32) from (by decide)]
            refine Ex_iaddN ((1 + 16) + 2) (0) d_jd_ntzI_78 rfl rfl ?_
            refine Ex_ireturn d_jd_ntzI_79 rfl ?_
            exact ⟨rfl, rfl⟩
        · exact absurd hc52 (by decide)
      · exact absurd hc38 (by decide)
  · exact absurd hc9 (by decide)
theorem ntz_20 {S : mj_S} {h : mj_H} : Ex S jd_ntzI 8 [some (.int (1048575)), none] [] h (Pu (.int (nI 20)) h) := by
  refine Ex_iload_n d_jd_ntzI_8 rfl ?_
  refine Ex_if_gtN (1048575) 17 d_jd_ntzI_9 rfl rfl (by omega) (fun hc9 => ?_) (fun hc9 => ?_)
  · refine Ex_iconst d_jd_ntzI_17 ic_1 ?_
    refine Ex_istore_n [some (.int (1048575)), some (.int (1))] d_jd_ntzI_18 (Nat.le_of_ble_eq_true rfl) rfl ?_
    refine Ex_iload_n d_jd_ntzI_19 rfl ?_
    refine Ex_ldc_w pi_jdInteger_264 d_jd_ntzI_20 ?_
    refine Ex_icmp_leN (1048575) (65536) 34 d_jd_ntzI_23 rfl rfl rfl (by omega) (by omega) (fun hc23 => ?_) (fun hc23 => ?_)
    · exact absurd hc23 (by decide)
    · refine Ex_iincN (1) 16 [some (.int (1048575)), some (.int (nI (1 + 16)))] d_jd_ntzI_26 rfl rfl rfl rfl ?_
      refine Ex_iload_n d_jd_ntzI_29 rfl ?_
      refine Ex_bipush d_jd_ntzI_30 bp_16 ?_
      refine Ex_iushr d_jd_ntzI_32 ?_
      rw [show ((((1048575 : Int32).toUInt32 >>> ((16 : Int32).toUInt32 &&& Int32.toUInt32 31)).toInt32) : Int32) = (15 : Int32) from (by decide)]
      refine Ex_istore_n [some (.int (15)), some (.int (nI (1 + 16)))] d_jd_ntzI_33 (Nat.le_of_ble_eq_true rfl) rfl ?_
      refine Ex_iload_n d_jd_ntzI_34 rfl ?_
      refine Ex_sipush d_jd_ntzI_35 sp_256 ?_
      refine Ex_icmp_leN (15) (256) 49 d_jd_ntzI_38 rfl rfl rfl (by omega) (by omega) (fun hc38 => ?_) (fun hc38 => ?_)
      · refine Ex_iload_n d_jd_ntzI_49 rfl ?_
        refine Ex_bipush d_jd_ntzI_50 bp_16 ?_
        refine Ex_icmp_leN (15) (16) 62 d_jd_ntzI_52 rfl rfl rfl (by omega) (by omega) (fun hc52 => ?_) (fun hc52 => ?_)
        · refine Ex_iload_n d_jd_ntzI_62 rfl ?_
          refine Ex_iconst d_jd_ntzI_63 ic_4 ?_
          refine Ex_icmp_leN (15) (4) 74 d_jd_ntzI_64 rfl rfl rfl (by omega) (by omega) (fun hc64 => ?_) (fun hc64 => ?_)
          · exact absurd hc64 (by decide)
          · refine Ex_iincN (1 + 16) 2 [some (.int (15)), some (.int (nI ((1 + 16) + 2)))] d_jd_ntzI_67 rfl rfl rfl rfl ?_
            refine Ex_iload_n d_jd_ntzI_70 rfl ?_
            refine Ex_iconst d_jd_ntzI_71 ic_2 ?_
            refine Ex_iushr d_jd_ntzI_72 ?_
            rw [show ((((15 : Int32).toUInt32 >>> ((2 : Int32).toUInt32 &&& Int32.toUInt32 31)).toInt32) : Int32) = (3 : Int32) from (by decide)]
            refine Ex_istore_n [some (.int (3)), some (.int (nI ((1 + 16) + 2)))] d_jd_ntzI_73 (Nat.le_of_ble_eq_true rfl) rfl ?_
            refine Ex_iload_n d_jd_ntzI_74 rfl ?_
            refine Ex_iload_n d_jd_ntzI_75 rfl ?_
            refine Ex_iconst d_jd_ntzI_76 ic_1 ?_
            refine Ex_iushr d_jd_ntzI_77 ?_
            rw [show ((((3 : Int32).toUInt32 >>> ((1 : Int32).toUInt32 &&& Int32.toUInt32 31)).toInt32) : Int32) = (1 : Int32) from (by decide)]
            refine Ex_iaddN ((1 + 16) + 2) (1) d_jd_ntzI_78 rfl rfl ?_
            refine Ex_ireturn d_jd_ntzI_79 rfl ?_
            exact ⟨rfl, rfl⟩
        · exact absurd hc52 (by decide)
      · exact absurd hc38 (by decide)
  · exact absurd hc9 (by decide)
theorem ntz_21 {S : mj_S} {h : mj_H} : Ex S jd_ntzI 8 [some (.int (2097151)), none] [] h (Pu (.int (nI 21)) h) := by
  refine Ex_iload_n d_jd_ntzI_8 rfl ?_
  refine Ex_if_gtN (2097151) 17 d_jd_ntzI_9 rfl rfl (by omega) (fun hc9 => ?_) (fun hc9 => ?_)
  · refine Ex_iconst d_jd_ntzI_17 ic_1 ?_
    refine Ex_istore_n [some (.int (2097151)), some (.int (1))] d_jd_ntzI_18 (Nat.le_of_ble_eq_true rfl) rfl ?_
    refine Ex_iload_n d_jd_ntzI_19 rfl ?_
    refine Ex_ldc_w pi_jdInteger_264 d_jd_ntzI_20 ?_
    refine Ex_icmp_leN (2097151) (65536) 34 d_jd_ntzI_23 rfl rfl rfl (by omega) (by omega) (fun hc23 => ?_) (fun hc23 => ?_)
    · exact absurd hc23 (by decide)
    · refine Ex_iincN (1) 16 [some (.int (2097151)), some (.int (nI (1 + 16)))] d_jd_ntzI_26 rfl rfl rfl rfl ?_
      refine Ex_iload_n d_jd_ntzI_29 rfl ?_
      refine Ex_bipush d_jd_ntzI_30 bp_16 ?_
      refine Ex_iushr d_jd_ntzI_32 ?_
      rw [show ((((2097151 : Int32).toUInt32 >>> ((16 : Int32).toUInt32 &&& Int32.toUInt32 31)).toInt32) : Int32) = (31 : Int32) from (by decide)]
      refine Ex_istore_n [some (.int (31)), some (.int (nI (1 + 16)))] d_jd_ntzI_33 (Nat.le_of_ble_eq_true rfl) rfl ?_
      refine Ex_iload_n d_jd_ntzI_34 rfl ?_
      refine Ex_sipush d_jd_ntzI_35 sp_256 ?_
      refine Ex_icmp_leN (31) (256) 49 d_jd_ntzI_38 rfl rfl rfl (by omega) (by omega) (fun hc38 => ?_) (fun hc38 => ?_)
      · refine Ex_iload_n d_jd_ntzI_49 rfl ?_
        refine Ex_bipush d_jd_ntzI_50 bp_16 ?_
        refine Ex_icmp_leN (31) (16) 62 d_jd_ntzI_52 rfl rfl rfl (by omega) (by omega) (fun hc52 => ?_) (fun hc52 => ?_)
        · exact absurd hc52 (by decide)
        · refine Ex_iincN (1 + 16) 4 [some (.int (31)), some (.int (nI ((1 + 16) + 4)))] d_jd_ntzI_55 rfl rfl rfl rfl ?_
          refine Ex_iload_n d_jd_ntzI_58 rfl ?_
          refine Ex_iconst d_jd_ntzI_59 ic_4 ?_
          refine Ex_iushr d_jd_ntzI_60 ?_
          rw [show ((((31 : Int32).toUInt32 >>> ((4 : Int32).toUInt32 &&& Int32.toUInt32 31)).toInt32) : Int32) = (1 : Int32) from (by decide)]
          refine Ex_istore_n [some (.int (1)), some (.int (nI ((1 + 16) + 4)))] d_jd_ntzI_61 (Nat.le_of_ble_eq_true rfl) rfl ?_
          refine Ex_iload_n d_jd_ntzI_62 rfl ?_
          refine Ex_iconst d_jd_ntzI_63 ic_4 ?_
          refine Ex_icmp_leN (1) (4) 74 d_jd_ntzI_64 rfl rfl rfl (by omega) (by omega) (fun hc64 => ?_) (fun hc64 => ?_)
          · refine Ex_iload_n d_jd_ntzI_74 rfl ?_
            refine Ex_iload_n d_jd_ntzI_75 rfl ?_
            refine Ex_iconst d_jd_ntzI_76 ic_1 ?_
            refine Ex_iushr d_jd_ntzI_77 ?_
            rw [show ((((1 : Int32).toUInt32 >>> ((1 : Int32).toUInt32 &&& Int32.toUInt32 31)).toInt32) : Int32) = (0 : Int32) from (by decide)]
            refine Ex_iaddN ((1 + 16) + 4) (0) d_jd_ntzI_78 rfl rfl ?_
            refine Ex_ireturn d_jd_ntzI_79 rfl ?_
            exact ⟨rfl, rfl⟩
          · exact absurd hc64 (by decide)
      · exact absurd hc38 (by decide)
  · exact absurd hc9 (by decide)
theorem ntz_22 {S : mj_S} {h : mj_H} : Ex S jd_ntzI 8 [some (.int (4194303)), none] [] h (Pu (.int (nI 22)) h) := by
  refine Ex_iload_n d_jd_ntzI_8 rfl ?_
  refine Ex_if_gtN (4194303) 17 d_jd_ntzI_9 rfl rfl (by omega) (fun hc9 => ?_) (fun hc9 => ?_)
  · refine Ex_iconst d_jd_ntzI_17 ic_1 ?_
    refine Ex_istore_n [some (.int (4194303)), some (.int (1))] d_jd_ntzI_18 (Nat.le_of_ble_eq_true rfl) rfl ?_
    refine Ex_iload_n d_jd_ntzI_19 rfl ?_
    refine Ex_ldc_w pi_jdInteger_264 d_jd_ntzI_20 ?_
    refine Ex_icmp_leN (4194303) (65536) 34 d_jd_ntzI_23 rfl rfl rfl (by omega) (by omega) (fun hc23 => ?_) (fun hc23 => ?_)
    · exact absurd hc23 (by decide)
    · refine Ex_iincN (1) 16 [some (.int (4194303)), some (.int (nI (1 + 16)))] d_jd_ntzI_26 rfl rfl rfl rfl ?_
      refine Ex_iload_n d_jd_ntzI_29 rfl ?_
      refine Ex_bipush d_jd_ntzI_30 bp_16 ?_
      refine Ex_iushr d_jd_ntzI_32 ?_
      rw [show ((((4194303 : Int32).toUInt32 >>> ((16 : Int32).toUInt32 &&& Int32.toUInt32 31)).toInt32) : Int32) = (63 : Int32) from (by decide)]
      refine Ex_istore_n [some (.int (63)), some (.int (nI (1 + 16)))] d_jd_ntzI_33 (Nat.le_of_ble_eq_true rfl) rfl ?_
      refine Ex_iload_n d_jd_ntzI_34 rfl ?_
      refine Ex_sipush d_jd_ntzI_35 sp_256 ?_
      refine Ex_icmp_leN (63) (256) 49 d_jd_ntzI_38 rfl rfl rfl (by omega) (by omega) (fun hc38 => ?_) (fun hc38 => ?_)
      · refine Ex_iload_n d_jd_ntzI_49 rfl ?_
        refine Ex_bipush d_jd_ntzI_50 bp_16 ?_
        refine Ex_icmp_leN (63) (16) 62 d_jd_ntzI_52 rfl rfl rfl (by omega) (by omega) (fun hc52 => ?_) (fun hc52 => ?_)
        · exact absurd hc52 (by decide)
        · refine Ex_iincN (1 + 16) 4 [some (.int (63)), some (.int (nI ((1 + 16) + 4)))] d_jd_ntzI_55 rfl rfl rfl rfl ?_
          refine Ex_iload_n d_jd_ntzI_58 rfl ?_
          refine Ex_iconst d_jd_ntzI_59 ic_4 ?_
          refine Ex_iushr d_jd_ntzI_60 ?_
          rw [show ((((63 : Int32).toUInt32 >>> ((4 : Int32).toUInt32 &&& Int32.toUInt32 31)).toInt32) : Int32) = (3 : Int32) from (by decide)]
          refine Ex_istore_n [some (.int (3)), some (.int (nI ((1 + 16) + 4)))] d_jd_ntzI_61 (Nat.le_of_ble_eq_true rfl) rfl ?_
          refine Ex_iload_n d_jd_ntzI_62 rfl ?_
          refine Ex_iconst d_jd_ntzI_63 ic_4 ?_
          refine Ex_icmp_leN (3) (4) 74 d_jd_ntzI_64 rfl rfl rfl (by omega) (by omega) (fun hc64 => ?_) (fun hc64 => ?_)
          · refine Ex_iload_n d_jd_ntzI_74 rfl ?_
            refine Ex_iload_n d_jd_ntzI_75 rfl ?_
            refine Ex_iconst d_jd_ntzI_76 ic_1 ?_
            refine Ex_iushr d_jd_ntzI_77 ?_
            rw [show ((((3 : Int32).toUInt32 >>> ((1 : Int32).toUInt32 &&& Int32.toUInt32 31)).toInt32) : Int32) = (1 : Int32) from (by decide)]
            refine Ex_iaddN ((1 + 16) + 4) (1) d_jd_ntzI_78 rfl rfl ?_
            refine Ex_ireturn d_jd_ntzI_79 rfl ?_
            exact ⟨rfl, rfl⟩
          · exact absurd hc64 (by decide)
      · exact absurd hc38 (by decide)
  · exact absurd hc9 (by decide)
theorem ntz_23 {S : mj_S} {h : mj_H} : Ex S jd_ntzI 8 [some (.int (8388607)), none] [] h (Pu (.int (nI 23)) h) := by
  refine Ex_iload_n d_jd_ntzI_8 rfl ?_
  refine Ex_if_gtN (8388607) 17 d_jd_ntzI_9 rfl rfl (by omega) (fun hc9 => ?_) (fun hc9 => ?_)
  · refine Ex_iconst d_jd_ntzI_17 ic_1 ?_
    refine Ex_istore_n [some (.int (8388607)), some (.int (1))] d_jd_ntzI_18 (Nat.le_of_ble_eq_true rfl) rfl ?_
    refine Ex_iload_n d_jd_ntzI_19 rfl ?_
    refine Ex_ldc_w pi_jdInteger_264 d_jd_ntzI_20 ?_
    refine Ex_icmp_leN (8388607) (65536) 34 d_jd_ntzI_23 rfl rfl rfl (by omega) (by omega) (fun hc23 => ?_) (fun hc23 => ?_)
    · exact absurd hc23 (by decide)
    · refine Ex_iincN (1) 16 [some (.int (8388607)), some (.int (nI (1 + 16)))] d_jd_ntzI_26 rfl rfl rfl rfl ?_
      refine Ex_iload_n d_jd_ntzI_29 rfl ?_
      refine Ex_bipush d_jd_ntzI_30 bp_16 ?_
      refine Ex_iushr d_jd_ntzI_32 ?_
      rw [show ((((8388607 : Int32).toUInt32 >>> ((16 : Int32).toUInt32 &&& Int32.toUInt32 31)).toInt32) : Int32) = (127 : Int32) from (by decide)]
      refine Ex_istore_n [some (.int (127)), some (.int (nI (1 + 16)))] d_jd_ntzI_33 (Nat.le_of_ble_eq_true rfl) rfl ?_
      refine Ex_iload_n d_jd_ntzI_34 rfl ?_
      refine Ex_sipush d_jd_ntzI_35 sp_256 ?_
      refine Ex_icmp_leN (127) (256) 49 d_jd_ntzI_38 rfl rfl rfl (by omega) (by omega) (fun hc38 => ?_) (fun hc38 => ?_)
      · refine Ex_iload_n d_jd_ntzI_49 rfl ?_
        refine Ex_bipush d_jd_ntzI_50 bp_16 ?_
        refine Ex_icmp_leN (127) (16) 62 d_jd_ntzI_52 rfl rfl rfl (by omega) (by omega) (fun hc52 => ?_) (fun hc52 => ?_)
        · exact absurd hc52 (by decide)
        · refine Ex_iincN (1 + 16) 4 [some (.int (127)), some (.int (nI ((1 + 16) + 4)))] d_jd_ntzI_55 rfl rfl rfl rfl ?_
          refine Ex_iload_n d_jd_ntzI_58 rfl ?_
          refine Ex_iconst d_jd_ntzI_59 ic_4 ?_
          refine Ex_iushr d_jd_ntzI_60 ?_
          rw [show ((((127 : Int32).toUInt32 >>> ((4 : Int32).toUInt32 &&& Int32.toUInt32 31)).toInt32) : Int32) = (7 : Int32) from (by decide)]
          refine Ex_istore_n [some (.int (7)), some (.int (nI ((1 + 16) + 4)))] d_jd_ntzI_61 (Nat.le_of_ble_eq_true rfl) rfl ?_
          refine Ex_iload_n d_jd_ntzI_62 rfl ?_
          refine Ex_iconst d_jd_ntzI_63 ic_4 ?_
          refine Ex_icmp_leN (7) (4) 74 d_jd_ntzI_64 rfl rfl rfl (by omega) (by omega) (fun hc64 => ?_) (fun hc64 => ?_)
          · exact absurd hc64 (by decide)
          · refine Ex_iincN ((1 + 16) + 4) 2 [some (.int (7)), some (.int (nI (((1 + 16) + 4) + 2)))] d_jd_ntzI_67 rfl rfl rfl rfl ?_
            refine Ex_iload_n d_jd_ntzI_70 rfl ?_
            refine Ex_iconst d_jd_ntzI_71 ic_2 ?_
            refine Ex_iushr d_jd_ntzI_72 ?_
            rw [show ((((7 : Int32).toUInt32 >>> ((2 : Int32).toUInt32 &&& Int32.toUInt32 31)).toInt32) : Int32) = (1 : Int32) from (by decide)]
            refine Ex_istore_n [some (.int (1)), some (.int (nI (((1 + 16) + 4) + 2)))] d_jd_ntzI_73 (Nat.le_of_ble_eq_true rfl) rfl ?_
            refine Ex_iload_n d_jd_ntzI_74 rfl ?_
            refine Ex_iload_n d_jd_ntzI_75 rfl ?_
            refine Ex_iconst d_jd_ntzI_76 ic_1 ?_
            refine Ex_iushr d_jd_ntzI_77 ?_
            rw [show ((((1 : Int32).toUInt32 >>> ((1 : Int32).toUInt32 &&& Int32.toUInt32 31)).toInt32) : Int32) = (0 : Int32) from (by decide)]
            refine Ex_iaddN (((1 + 16) + 4) + 2) (0) d_jd_ntzI_78 rfl rfl ?_
            refine Ex_ireturn d_jd_ntzI_79 rfl ?_
            exact ⟨rfl, rfl⟩
      · exact absurd hc38 (by decide)
  · exact absurd hc9 (by decide)
theorem ntz_24 {S : mj_S} {h : mj_H} : Ex S jd_ntzI 8 [some (.int (16777215)), none] [] h (Pu (.int (nI 24)) h) := by
  refine Ex_iload_n d_jd_ntzI_8 rfl ?_
  refine Ex_if_gtN (16777215) 17 d_jd_ntzI_9 rfl rfl (by omega) (fun hc9 => ?_) (fun hc9 => ?_)
  · refine Ex_iconst d_jd_ntzI_17 ic_1 ?_
    refine Ex_istore_n [some (.int (16777215)), some (.int (1))] d_jd_ntzI_18 (Nat.le_of_ble_eq_true rfl) rfl ?_
    refine Ex_iload_n d_jd_ntzI_19 rfl ?_
    refine Ex_ldc_w pi_jdInteger_264 d_jd_ntzI_20 ?_
    refine Ex_icmp_leN (16777215) (65536) 34 d_jd_ntzI_23 rfl rfl rfl (by omega) (by omega) (fun hc23 => ?_) (fun hc23 => ?_)
    · exact absurd hc23 (by decide)
    · refine Ex_iincN (1) 16 [some (.int (16777215)), some (.int (nI (1 + 16)))] d_jd_ntzI_26 rfl rfl rfl rfl ?_
      refine Ex_iload_n d_jd_ntzI_29 rfl ?_
      refine Ex_bipush d_jd_ntzI_30 bp_16 ?_
      refine Ex_iushr d_jd_ntzI_32 ?_
      rw [show ((((16777215 : Int32).toUInt32 >>> ((16 : Int32).toUInt32 &&& Int32.toUInt32 31)).toInt32) : Int32) = (255 : Int32) from (by decide)]
      refine Ex_istore_n [some (.int (255)), some (.int (nI (1 + 16)))] d_jd_ntzI_33 (Nat.le_of_ble_eq_true rfl) rfl ?_
      refine Ex_iload_n d_jd_ntzI_34 rfl ?_
      refine Ex_sipush d_jd_ntzI_35 sp_256 ?_
      refine Ex_icmp_leN (255) (256) 49 d_jd_ntzI_38 rfl rfl rfl (by omega) (by omega) (fun hc38 => ?_) (fun hc38 => ?_)
      · refine Ex_iload_n d_jd_ntzI_49 rfl ?_
        refine Ex_bipush d_jd_ntzI_50 bp_16 ?_
        refine Ex_icmp_leN (255) (16) 62 d_jd_ntzI_52 rfl rfl rfl (by omega) (by omega) (fun hc52 => ?_) (fun hc52 => ?_)
        · exact absurd hc52 (by decide)
        · refine Ex_iincN (1 + 16) 4 [some (.int (255)), some (.int (nI ((1 + 16) + 4)))] d_jd_ntzI_55 rfl rfl rfl rfl ?_
          refine Ex_iload_n d_jd_ntzI_58 rfl ?_
          refine Ex_iconst d_jd_ntzI_59 ic_4 ?_
          refine Ex_iushr d_jd_ntzI_60 ?_
          rw [show ((((255 : Int32).toUInt32 >>> ((4 : Int32).toUInt32 &&& Int32.toUInt32 31)).toInt32) : Int32) = (15 : Int32) from (by decide)]
          refine Ex_istore_n [some (.int (15)), some (.int (nI ((1 + 16) + 4)))] d_jd_ntzI_61 (Nat.le_of_ble_eq_true rfl) rfl ?_
          refine Ex_iload_n d_jd_ntzI_62 rfl ?_
          refine Ex_iconst d_jd_ntzI_63 ic_4 ?_
          refine Ex_icmp_leN (15) (4) 74 d_jd_ntzI_64 rfl rfl rfl (by omega) (by omega) (fun hc64 => ?_) (fun hc64 => ?_)
          · exact absurd hc64 (by decide)
          · refine Ex_iincN ((1 + 16) + 4) 2 [some (.int (15)), some (.int (nI (((1 + 16) + 4) + 2)))] d_jd_ntzI_67 rfl rfl rfl rfl ?_
            refine Ex_iload_n d_jd_ntzI_70 rfl ?_
            refine Ex_iconst d_jd_ntzI_71 ic_2 ?_
            refine Ex_iushr d_jd_ntzI_72 ?_
            rw [show ((((15 : Int32).toUInt32 >>> ((2 : Int32).toUInt32 &&& Int32.toUInt32 31)).toInt32) : Int32) = (3 : Int32) from (by decide)]
            refine Ex_istore_n [some (.int (3)), some (.int (nI (((1 + 16) + 4) + 2)))] d_jd_ntzI_73 (Nat.le_of_ble_eq_true rfl) rfl ?_
            refine Ex_iload_n d_jd_ntzI_74 rfl ?_
            refine Ex_iload_n d_jd_ntzI_75 rfl ?_
            refine Ex_iconst d_jd_ntzI_76 ic_1 ?_
            refine Ex_iushr d_jd_ntzI_77 ?_
            rw [show ((((3 : Int32).toUInt32 >>> ((1 : Int32).toUInt32 &&& Int32.toUInt32 31)).toInt32) : Int32) = (1 : Int32) from (by decide)]
            refine Ex_iaddN (((1 + 16) + 4) + 2) (1) d_jd_ntzI_78 rfl rfl ?_
            refine Ex_ireturn d_jd_ntzI_79 rfl ?_
            exact ⟨rfl, rfl⟩
      · exact absurd hc38 (by decide)
  · exact absurd hc9 (by decide)
theorem ntz_25 {S : mj_S} {h : mj_H} : Ex S jd_ntzI 8 [some (.int (33554431)), none] [] h (Pu (.int (nI 25)) h) := by
  refine Ex_iload_n d_jd_ntzI_8 rfl ?_
  refine Ex_if_gtN (33554431) 17 d_jd_ntzI_9 rfl rfl (by omega) (fun hc9 => ?_) (fun hc9 => ?_)
  · refine Ex_iconst d_jd_ntzI_17 ic_1 ?_
    refine Ex_istore_n [some (.int (33554431)), some (.int (1))] d_jd_ntzI_18 (Nat.le_of_ble_eq_true rfl) rfl ?_
    refine Ex_iload_n d_jd_ntzI_19 rfl ?_
    refine Ex_ldc_w pi_jdInteger_264 d_jd_ntzI_20 ?_
    refine Ex_icmp_leN (33554431) (65536) 34 d_jd_ntzI_23 rfl rfl rfl (by omega) (by omega) (fun hc23 => ?_) (fun hc23 => ?_)
    · exact absurd hc23 (by decide)
    · refine Ex_iincN (1) 16 [some (.int (33554431)), some (.int (nI (1 + 16)))] d_jd_ntzI_26 rfl rfl rfl rfl ?_
      refine Ex_iload_n d_jd_ntzI_29 rfl ?_
      refine Ex_bipush d_jd_ntzI_30 bp_16 ?_
      refine Ex_iushr d_jd_ntzI_32 ?_
      rw [show ((((33554431 : Int32).toUInt32 >>> ((16 : Int32).toUInt32 &&& Int32.toUInt32 31)).toInt32) : Int32) = (511 : Int32) from (by decide)]
      refine Ex_istore_n [some (.int (511)), some (.int (nI (1 + 16)))] d_jd_ntzI_33 (Nat.le_of_ble_eq_true rfl) rfl ?_
      refine Ex_iload_n d_jd_ntzI_34 rfl ?_
      refine Ex_sipush d_jd_ntzI_35 sp_256 ?_
      refine Ex_icmp_leN (511) (256) 49 d_jd_ntzI_38 rfl rfl rfl (by omega) (by omega) (fun hc38 => ?_) (fun hc38 => ?_)
      · exact absurd hc38 (by decide)
      · refine Ex_iincN (1 + 16) 8 [some (.int (511)), some (.int (nI ((1 + 16) + 8)))] d_jd_ntzI_41 rfl rfl rfl rfl ?_
        refine Ex_iload_n d_jd_ntzI_44 rfl ?_
        refine Ex_bipush d_jd_ntzI_45 bp_8 ?_
        refine Ex_iushr d_jd_ntzI_47 ?_
        rw [show ((((511 : Int32).toUInt32 >>> ((8 : Int32).toUInt32 &&& Int32.toUInt32 31)).toInt32) : Int32) = (1 : Int32) from (by decide)]
        refine Ex_istore_n [some (.int (1)), some (.int (nI ((1 + 16) + 8)))] d_jd_ntzI_48 (Nat.le_of_ble_eq_true rfl) rfl ?_
        refine Ex_iload_n d_jd_ntzI_49 rfl ?_
        refine Ex_bipush d_jd_ntzI_50 bp_16 ?_
        refine Ex_icmp_leN (1) (16) 62 d_jd_ntzI_52 rfl rfl rfl (by omega) (by omega) (fun hc52 => ?_) (fun hc52 => ?_)
        · refine Ex_iload_n d_jd_ntzI_62 rfl ?_
          refine Ex_iconst d_jd_ntzI_63 ic_4 ?_
          refine Ex_icmp_leN (1) (4) 74 d_jd_ntzI_64 rfl rfl rfl (by omega) (by omega) (fun hc64 => ?_) (fun hc64 => ?_)
          · refine Ex_iload_n d_jd_ntzI_74 rfl ?_
            refine Ex_iload_n d_jd_ntzI_75 rfl ?_
            refine Ex_iconst d_jd_ntzI_76 ic_1 ?_
            refine Ex_iushr d_jd_ntzI_77 ?_
            rw [show ((((1 : Int32).toUInt32 >>> ((1 : Int32).toUInt32 &&& Int32.toUInt32 31)).toInt32) : Int32) = (0 : Int32) from (by decide)]
            refine Ex_iaddN ((1 + 16) + 8) (0) d_jd_ntzI_78 rfl rfl ?_
            refine Ex_ireturn d_jd_ntzI_79 rfl ?_
            exact ⟨rfl, rfl⟩
          · exact absurd hc64 (by decide)
        · exact absurd hc52 (by decide)
  · exact absurd hc9 (by decide)
theorem ntz_26 {S : mj_S} {h : mj_H} : Ex S jd_ntzI 8 [some (.int (67108863)), none] [] h (Pu (.int (nI 26)) h) := by
  refine Ex_iload_n d_jd_ntzI_8 rfl ?_
  refine Ex_if_gtN (67108863) 17 d_jd_ntzI_9 rfl rfl (by omega) (fun hc9 => ?_) (fun hc9 => ?_)
  · refine Ex_iconst d_jd_ntzI_17 ic_1 ?_
    refine Ex_istore_n [some (.int (67108863)), some (.int (1))] d_jd_ntzI_18 (Nat.le_of_ble_eq_true rfl) rfl ?_
    refine Ex_iload_n d_jd_ntzI_19 rfl ?_
    refine Ex_ldc_w pi_jdInteger_264 d_jd_ntzI_20 ?_
    refine Ex_icmp_leN (67108863) (65536) 34 d_jd_ntzI_23 rfl rfl rfl (by omega) (by omega) (fun hc23 => ?_) (fun hc23 => ?_)
    · exact absurd hc23 (by decide)
    · refine Ex_iincN (1) 16 [some (.int (67108863)), some (.int (nI (1 + 16)))] d_jd_ntzI_26 rfl rfl rfl rfl ?_
      refine Ex_iload_n d_jd_ntzI_29 rfl ?_
      refine Ex_bipush d_jd_ntzI_30 bp_16 ?_
      refine Ex_iushr d_jd_ntzI_32 ?_
      rw [show ((((67108863 : Int32).toUInt32 >>> ((16 : Int32).toUInt32 &&& Int32.toUInt32 31)).toInt32) : Int32) = (1023 : Int32) from (by decide)]
      refine Ex_istore_n [some (.int (1023)), some (.int (nI (1 + 16)))] d_jd_ntzI_33 (Nat.le_of_ble_eq_true rfl) rfl ?_
      refine Ex_iload_n d_jd_ntzI_34 rfl ?_
      refine Ex_sipush d_jd_ntzI_35 sp_256 ?_
      refine Ex_icmp_leN (1023) (256) 49 d_jd_ntzI_38 rfl rfl rfl (by omega) (by omega) (fun hc38 => ?_) (fun hc38 => ?_)
      · exact absurd hc38 (by decide)
      · refine Ex_iincN (1 + 16) 8 [some (.int (1023)), some (.int (nI ((1 + 16) + 8)))] d_jd_ntzI_41 rfl rfl rfl rfl ?_
        refine Ex_iload_n d_jd_ntzI_44 rfl ?_
        refine Ex_bipush d_jd_ntzI_45 bp_8 ?_
        refine Ex_iushr d_jd_ntzI_47 ?_
        rw [show ((((1023 : Int32).toUInt32 >>> ((8 : Int32).toUInt32 &&& Int32.toUInt32 31)).toInt32) : Int32) = (3 : Int32) from (by decide)]
        refine Ex_istore_n [some (.int (3)), some (.int (nI ((1 + 16) + 8)))] d_jd_ntzI_48 (Nat.le_of_ble_eq_true rfl) rfl ?_
        refine Ex_iload_n d_jd_ntzI_49 rfl ?_
        refine Ex_bipush d_jd_ntzI_50 bp_16 ?_
        refine Ex_icmp_leN (3) (16) 62 d_jd_ntzI_52 rfl rfl rfl (by omega) (by omega) (fun hc52 => ?_) (fun hc52 => ?_)
        · refine Ex_iload_n d_jd_ntzI_62 rfl ?_
          refine Ex_iconst d_jd_ntzI_63 ic_4 ?_
          refine Ex_icmp_leN (3) (4) 74 d_jd_ntzI_64 rfl rfl rfl (by omega) (by omega) (fun hc64 => ?_) (fun hc64 => ?_)
          · refine Ex_iload_n d_jd_ntzI_74 rfl ?_
            refine Ex_iload_n d_jd_ntzI_75 rfl ?_
            refine Ex_iconst d_jd_ntzI_76 ic_1 ?_
            refine Ex_iushr d_jd_ntzI_77 ?_
            rw [show ((((3 : Int32).toUInt32 >>> ((1 : Int32).toUInt32 &&& Int32.toUInt32 31)).toInt32) : Int32) = (1 : Int32) from (by decide)]
            refine Ex_iaddN ((1 + 16) + 8) (1) d_jd_ntzI_78 rfl rfl ?_
            refine Ex_ireturn d_jd_ntzI_79 rfl ?_
            exact ⟨rfl, rfl⟩
          · exact absurd hc64 (by decide)
        · exact absurd hc52 (by decide)
  · exact absurd hc9 (by decide)
theorem ntz_27 {S : mj_S} {h : mj_H} : Ex S jd_ntzI 8 [some (.int (134217727)), none] [] h (Pu (.int (nI 27)) h) := by
  refine Ex_iload_n d_jd_ntzI_8 rfl ?_
  refine Ex_if_gtN (134217727) 17 d_jd_ntzI_9 rfl rfl (by omega) (fun hc9 => ?_) (fun hc9 => ?_)
  · refine Ex_iconst d_jd_ntzI_17 ic_1 ?_
    refine Ex_istore_n [some (.int (134217727)), some (.int (1))] d_jd_ntzI_18 (Nat.le_of_ble_eq_true rfl) rfl ?_
    refine Ex_iload_n d_jd_ntzI_19 rfl ?_
    refine Ex_ldc_w pi_jdInteger_264 d_jd_ntzI_20 ?_
    refine Ex_icmp_leN (134217727) (65536) 34 d_jd_ntzI_23 rfl rfl rfl (by omega) (by omega) (fun hc23 => ?_) (fun hc23 => ?_)
    · exact absurd hc23 (by decide)
    · refine Ex_iincN (1) 16 [some (.int (134217727)), some (.int (nI (1 + 16)))] d_jd_ntzI_26 rfl rfl rfl rfl ?_
      refine Ex_iload_n d_jd_ntzI_29 rfl ?_
      refine Ex_bipush d_jd_ntzI_30 bp_16 ?_
      refine Ex_iushr d_jd_ntzI_32 ?_
      rw [show ((((134217727 : Int32).toUInt32 >>> ((16 : Int32).toUInt32 &&& Int32.toUInt32 31)).toInt32) : Int32) = (2047 : Int32) from (by decide)]
      refine Ex_istore_n [some (.int (2047)), some (.int (nI (1 + 16)))] d_jd_ntzI_33 (Nat.le_of_ble_eq_true rfl) rfl ?_
      refine Ex_iload_n d_jd_ntzI_34 rfl ?_
      refine Ex_sipush d_jd_ntzI_35 sp_256 ?_
      refine Ex_icmp_leN (2047) (256) 49 d_jd_ntzI_38 rfl rfl rfl (by omega) (by omega) (fun hc38 => ?_) (fun hc38 => ?_)
      · exact absurd hc38 (by decide)
      · refine Ex_iincN (1 + 16) 8 [some (.int (2047)), some (.int (nI ((1 + 16) + 8)))] d_jd_ntzI_41 rfl rfl rfl rfl ?_
        refine Ex_iload_n d_jd_ntzI_44 rfl ?_
        refine Ex_bipush d_jd_ntzI_45 bp_8 ?_
        refine Ex_iushr d_jd_ntzI_47 ?_
        rw [show ((((2047 : Int32).toUInt32 >>> ((8 : Int32).toUInt32 &&& Int32.toUInt32 31)).toInt32) : Int32) = (7 : Int32) from (by decide)]
        refine Ex_istore_n [some (.int (7)), some (.int (nI ((1 + 16) + 8)))] d_jd_ntzI_48 (Nat.le_of_ble_eq_true rfl) rfl ?_
        refine Ex_iload_n d_jd_ntzI_49 rfl ?_
        refine Ex_bipush d_jd_ntzI_50 bp_16 ?_
        refine Ex_icmp_leN (7) (16) 62 d_jd_ntzI_52 rfl rfl rfl (by omega) (by omega) (fun hc52 => ?_) (fun hc52 => ?_)
        · refine Ex_iload_n d_jd_ntzI_62 rfl ?_
          refine Ex_iconst d_jd_ntzI_63 ic_4 ?_
          refine Ex_icmp_leN (7) (4) 74 d_jd_ntzI_64 rfl rfl rfl (by omega) (by omega) (fun hc64 => ?_) (fun hc64 => ?_)
          · exact absurd hc64 (by decide)
          · refine Ex_iincN ((1 + 16) + 8) 2 [some (.int (7)), some (.int (nI (((1 + 16) + 8) + 2)))] d_jd_ntzI_67 rfl rfl rfl rfl ?_
            refine Ex_iload_n d_jd_ntzI_70 rfl ?_
            refine Ex_iconst d_jd_ntzI_71 ic_2 ?_
            refine Ex_iushr d_jd_ntzI_72 ?_
            rw [show ((((7 : Int32).toUInt32 >>> ((2 : Int32).toUInt32 &&& Int32.toUInt32 31)).toInt32) : Int32) = (1 : Int32) from (by decide)]
            refine Ex_istore_n [some (.int (1)), some (.int (nI (((1 + 16) + 8) + 2)))] d_jd_ntzI_73 (Nat.le_of_ble_eq_true rfl) rfl ?_
            refine Ex_iload_n d_jd_ntzI_74 rfl ?_
            refine Ex_iload_n d_jd_ntzI_75 rfl ?_
            refine Ex_iconst d_jd_ntzI_76 ic_1 ?_
            refine Ex_iushr d_jd_ntzI_77 ?_
            rw [show ((((1 : Int32).toUInt32 >>> ((1 : Int32).toUInt32 &&& Int32.toUInt32 31)).toInt32) : Int32) = (0 : Int32) from (by decide)]
            refine Ex_iaddN (((1 + 16) + 8) + 2) (0) d_jd_ntzI_78 rfl rfl ?_
            refine Ex_ireturn d_jd_ntzI_79 rfl ?_
            exact ⟨rfl, rfl⟩
        · exact absurd hc52 (by decide)
  · exact absurd hc9 (by decide)
theorem ntz_28 {S : mj_S} {h : mj_H} : Ex S jd_ntzI 8 [some (.int (268435455)), none] [] h (Pu (.int (nI 28)) h) := by
  refine Ex_iload_n d_jd_ntzI_8 rfl ?_
  refine Ex_if_gtN (268435455) 17 d_jd_ntzI_9 rfl rfl (by omega) (fun hc9 => ?_) (fun hc9 => ?_)
  · refine Ex_iconst d_jd_ntzI_17 ic_1 ?_
    refine Ex_istore_n [some (.int (268435455)), some (.int (1))] d_jd_ntzI_18 (Nat.le_of_ble_eq_true rfl) rfl ?_
    refine Ex_iload_n d_jd_ntzI_19 rfl ?_
    refine Ex_ldc_w pi_jdInteger_264 d_jd_ntzI_20 ?_
    refine Ex_icmp_leN (268435455) (65536) 34 d_jd_ntzI_23 rfl rfl rfl (by omega) (by omega) (fun hc23 => ?_) (fun hc23 => ?_)
    · exact absurd hc23 (by decide)
    · refine Ex_iincN (1) 16 [some (.int (268435455)), some (.int (nI (1 + 16)))] d_jd_ntzI_26 rfl rfl rfl rfl ?_
      refine Ex_iload_n d_jd_ntzI_29 rfl ?_
      refine Ex_bipush d_jd_ntzI_30 bp_16 ?_
      refine Ex_iushr d_jd_ntzI_32 ?_
      rw [show ((((268435455 : Int32).toUInt32 >>> ((16 : Int32).toUInt32 &&& Int32.toUInt32 31)).toInt32) : Int32) = (4095 : Int32) from (by decide)]
      refine Ex_istore_n [some (.int (4095)), some (.int (nI (1 + 16)))] d_jd_ntzI_33 (Nat.le_of_ble_eq_true rfl) rfl ?_
      refine Ex_iload_n d_jd_ntzI_34 rfl ?_
      refine Ex_sipush d_jd_ntzI_35 sp_256 ?_
      refine Ex_icmp_leN (4095) (256) 49 d_jd_ntzI_38 rfl rfl rfl (by omega) (by omega) (fun hc38 => ?_) (fun hc38 => ?_)
      · exact absurd hc38 (by decide)
      · refine Ex_iincN (1 + 16) 8 [some (.int (4095)), some (.int (nI ((1 + 16) + 8)))] d_jd_ntzI_41 rfl rfl rfl rfl ?_
        refine Ex_iload_n d_jd_ntzI_44 rfl ?_
        refine Ex_bipush d_jd_ntzI_45 bp_8 ?_
        refine Ex_iushr d_jd_ntzI_47 ?_
        rw [show ((((4095 : Int32).toUInt32 >>> ((8 : Int32).toUInt32 &&& Int32.toUInt32 31)).toInt32) : Int32) = (15 : Int32) from (by decide)]
        refine Ex_istore_n [some (.int (15)), some (.int (nI ((1 + 16) + 8)))] d_jd_ntzI_48 (Nat.le_of_ble_eq_true rfl) rfl ?_
        refine Ex_iload_n d_jd_ntzI_49 rfl ?_
        refine Ex_bipush d_jd_ntzI_50 bp_16 ?_
        refine Ex_icmp_leN (15) (16) 62 d_jd_ntzI_52 rfl rfl rfl (by omega) (by omega) (fun hc52 => ?_) (fun hc52 => ?_)
        · refine Ex_iload_n d_jd_ntzI_62 rfl ?_
          refine Ex_iconst d_jd_ntzI_63 ic_4 ?_
          refine Ex_icmp_leN (15) (4) 74 d_jd_ntzI_64 rfl rfl rfl (by omega) (by omega) (fun hc64 => ?_) (fun hc64 => ?_)
          · exact absurd hc64 (by decide)
          · refine Ex_iincN ((1 + 16) + 8) 2 [some (.int (15)), some (.int (nI (((1 + 16) + 8) + 2)))] d_jd_ntzI_67 rfl rfl rfl rfl ?_
            refine Ex_iload_n d_jd_ntzI_70 rfl ?_
            refine Ex_iconst d_jd_ntzI_71 ic_2 ?_
            refine Ex_iushr d_jd_ntzI_72 ?_
            rw [show ((((15 : Int32).toUInt32 >>> ((2 : Int32).toUInt32 &&& Int32.toUInt32 31)).toInt32) : Int32) = (3 : Int32) from (by decide)]
            refine Ex_istore_n [some (.int (3)), some (.int (nI (((1 + 16) + 8) + 2)))] d_jd_ntzI_73 (Nat.le_of_ble_eq_true rfl) rfl ?_
            refine Ex_iload_n d_jd_ntzI_74 rfl ?_
            refine Ex_iload_n d_jd_ntzI_75 rfl ?_
            refine Ex_iconst d_jd_ntzI_76 ic_1 ?_
            refine Ex_iushr d_jd_ntzI_77 ?_
            rw [show ((((3 : Int32).toUInt32 >>> ((1 : Int32).toUInt32 &&& Int32.toUInt32 31)).toInt32) : Int32) = (1 : Int32) from (by decide)]
            refine Ex_iaddN (((1 + 16) + 8) + 2) (1) d_jd_ntzI_78 rfl rfl ?_
            refine Ex_ireturn d_jd_ntzI_79 rfl ?_
            exact ⟨rfl, rfl⟩
        · exact absurd hc52 (by decide)
  · exact absurd hc9 (by decide)
theorem ntz_29 {S : mj_S} {h : mj_H} : Ex S jd_ntzI 8 [some (.int (536870911)), none] [] h (Pu (.int (nI 29)) h) := by
  refine Ex_iload_n d_jd_ntzI_8 rfl ?_
  refine Ex_if_gtN (536870911) 17 d_jd_ntzI_9 rfl rfl (by omega) (fun hc9 => ?_) (fun hc9 => ?_)
  · refine Ex_iconst d_jd_ntzI_17 ic_1 ?_
    refine Ex_istore_n [some (.int (536870911)), some (.int (1))] d_jd_ntzI_18 (Nat.le_of_ble_eq_true rfl) rfl ?_
    refine Ex_iload_n d_jd_ntzI_19 rfl ?_
    refine Ex_ldc_w pi_jdInteger_264 d_jd_ntzI_20 ?_
    refine Ex_icmp_leN (536870911) (65536) 34 d_jd_ntzI_23 rfl rfl rfl (by omega) (by omega) (fun hc23 => ?_) (fun hc23 => ?_)
    · exact absurd hc23 (by decide)
    · refine Ex_iincN (1) 16 [some (.int (536870911)), some (.int (nI (1 + 16)))] d_jd_ntzI_26 rfl rfl rfl rfl ?_
      refine Ex_iload_n d_jd_ntzI_29 rfl ?_
      refine Ex_bipush d_jd_ntzI_30 bp_16 ?_
      refine Ex_iushr d_jd_ntzI_32 ?_
      rw [show ((((536870911 : Int32).toUInt32 >>> ((16 : Int32).toUInt32 &&& Int32.toUInt32 31)).toInt32) : Int32) = (8191 : Int32) from (by decide)]
      refine Ex_istore_n [some (.int (8191)), some (.int (nI (1 + 16)))] d_jd_ntzI_33 (Nat.le_of_ble_eq_true rfl) rfl ?_
      refine Ex_iload_n d_jd_ntzI_34 rfl ?_
      refine Ex_sipush d_jd_ntzI_35 sp_256 ?_
      refine Ex_icmp_leN (8191) (256) 49 d_jd_ntzI_38 rfl rfl rfl (by omega) (by omega) (fun hc38 => ?_) (fun hc38 => ?_)
      · exact absurd hc38 (by decide)
      · refine Ex_iincN (1 + 16) 8 [some (.int (8191)), some (.int (nI ((1 + 16) + 8)))] d_jd_ntzI_41 rfl rfl rfl rfl ?_
        refine Ex_iload_n d_jd_ntzI_44 rfl ?_
        refine Ex_bipush d_jd_ntzI_45 bp_8 ?_
        refine Ex_iushr d_jd_ntzI_47 ?_
        rw [show ((((8191 : Int32).toUInt32 >>> ((8 : Int32).toUInt32 &&& Int32.toUInt32 31)).toInt32) : Int32) = (31 : Int32) from (by decide)]
        refine Ex_istore_n [some (.int (31)), some (.int (nI ((1 + 16) + 8)))] d_jd_ntzI_48 (Nat.le_of_ble_eq_true rfl) rfl ?_
        refine Ex_iload_n d_jd_ntzI_49 rfl ?_
        refine Ex_bipush d_jd_ntzI_50 bp_16 ?_
        refine Ex_icmp_leN (31) (16) 62 d_jd_ntzI_52 rfl rfl rfl (by omega) (by omega) (fun hc52 => ?_) (fun hc52 => ?_)
        · exact absurd hc52 (by decide)
        · refine Ex_iincN ((1 + 16) + 8) 4 [some (.int (31)), some (.int (nI (((1 + 16) + 8) + 4)))] d_jd_ntzI_55 rfl rfl rfl rfl ?_
          refine Ex_iload_n d_jd_ntzI_58 rfl ?_
          refine Ex_iconst d_jd_ntzI_59 ic_4 ?_
          refine Ex_iushr d_jd_ntzI_60 ?_
          rw [show ((((31 : Int32).toUInt32 >>> ((4 : Int32).toUInt32 &&& Int32.toUInt32 31)).toInt32) : Int32) = (1 : Int32) from (by decide)]
          refine Ex_istore_n [some (.int (1)), some (.int (nI (((1 + 16) + 8) + 4)))] d_jd_ntzI_61 (Nat.le_of_ble_eq_true rfl) rfl ?_
          refine Ex_iload_n d_jd_ntzI_62 rfl ?_
          refine Ex_iconst d_jd_ntzI_63 ic_4 ?_
          refine Ex_icmp_leN (1) (4) 74 d_jd_ntzI_64 rfl rfl rfl (by omega) (by omega) (fun hc64 => ?_) (fun hc64 => ?_)
          · refine Ex_iload_n d_jd_ntzI_74 rfl ?_
            refine Ex_iload_n d_jd_ntzI_75 rfl ?_
            refine Ex_iconst d_jd_ntzI_76 ic_1 ?_
            refine Ex_iushr d_jd_ntzI_77 ?_
            rw [show ((((1 : Int32).toUInt32 >>> ((1 : Int32).toUInt32 &&& Int32.toUInt32 31)).toInt32) : Int32) = (0 : Int32) from (by decide)]
            refine Ex_iaddN (((1 + 16) + 8) + 4) (0) d_jd_ntzI_78 rfl rfl ?_
            refine Ex_ireturn d_jd_ntzI_79 rfl ?_
            exact ⟨rfl, rfl⟩
          · exact absurd hc64 (by decide)
  · exact absurd hc9 (by decide)
theorem ntz_30 {S : mj_S} {h : mj_H} : Ex S jd_ntzI 8 [some (.int (1073741823)), none] [] h (Pu (.int (nI 30)) h) := by
  refine Ex_iload_n d_jd_ntzI_8 rfl ?_
  refine Ex_if_gtN (1073741823) 17 d_jd_ntzI_9 rfl rfl (by omega) (fun hc9 => ?_) (fun hc9 => ?_)
  · refine Ex_iconst d_jd_ntzI_17 ic_1 ?_
    refine Ex_istore_n [some (.int (1073741823)), some (.int (1))] d_jd_ntzI_18 (Nat.le_of_ble_eq_true rfl) rfl ?_
    refine Ex_iload_n d_jd_ntzI_19 rfl ?_
    refine Ex_ldc_w pi_jdInteger_264 d_jd_ntzI_20 ?_
    refine Ex_icmp_leN (1073741823) (65536) 34 d_jd_ntzI_23 rfl rfl rfl (by omega) (by omega) (fun hc23 => ?_) (fun hc23 => ?_)
    · exact absurd hc23 (by decide)
    · refine Ex_iincN (1) 16 [some (.int (1073741823)), some (.int (nI (1 + 16)))] d_jd_ntzI_26 rfl rfl rfl rfl ?_
      refine Ex_iload_n d_jd_ntzI_29 rfl ?_
      refine Ex_bipush d_jd_ntzI_30 bp_16 ?_
      refine Ex_iushr d_jd_ntzI_32 ?_
      rw [show ((((1073741823 : Int32).toUInt32 >>> ((16 : Int32).toUInt32 &&& Int32.toUInt32 31)).toInt32) : Int32) = (16383 : Int32) from (by decide)]
      refine Ex_istore_n [some (.int (16383)), some (.int (nI (1 + 16)))] d_jd_ntzI_33 (Nat.le_of_ble_eq_true rfl) rfl ?_
      refine Ex_iload_n d_jd_ntzI_34 rfl ?_
      refine Ex_sipush d_jd_ntzI_35 sp_256 ?_
      refine Ex_icmp_leN (16383) (256) 49 d_jd_ntzI_38 rfl rfl rfl (by omega) (by omega) (fun hc38 => ?_) (fun hc38 => ?_)
      · exact absurd hc38 (by decide)
      · refine Ex_iincN (1 + 16) 8 [some (.int (16383)), some (.int (nI ((1 + 16) + 8)))] d_jd_ntzI_41 rfl rfl rfl rfl ?_
        refine Ex_iload_n d_jd_ntzI_44 rfl ?_
        refine Ex_bipush d_jd_ntzI_45 bp_8 ?_
        refine Ex_iushr d_jd_ntzI_47 ?_
        rw [show ((((16383 : Int32).toUInt32 >>> ((8 : Int32).toUInt32 &&& Int32.toUInt32 31)).toInt32) : Int32) = (63 : Int32) from (by decide)]
        refine Ex_istore_n [some (.int (63)), some (.int (nI ((1 + 16) + 8)))] d_jd_ntzI_48 (Nat.le_of_ble_eq_true rfl) rfl ?_
        refine Ex_iload_n d_jd_ntzI_49 rfl ?_
        refine Ex_bipush d_jd_ntzI_50 bp_16 ?_
        refine Ex_icmp_leN (63) (16) 62 d_jd_ntzI_52 rfl rfl rfl (by omega) (by omega) (fun hc52 => ?_) (fun hc52 => ?_)
        · exact absurd hc52 (by decide)
        · refine Ex_iincN ((1 + 16) + 8) 4 [some (.int (63)), some (.int (nI (((1 + 16) + 8) + 4)))] d_jd_ntzI_55 rfl rfl rfl rfl ?_
          refine Ex_iload_n d_jd_ntzI_58 rfl ?_
          refine Ex_iconst d_jd_ntzI_59 ic_4 ?_
          refine Ex_iushr d_jd_ntzI_60 ?_
          rw [show ((((63 : Int32).toUInt32 >>> ((4 : Int32).toUInt32 &&& Int32.toUInt32 31)).toInt32) : Int32) = (3 : Int32) from (by decide)]
          refine Ex_istore_n [some (.int (3)), some (.int (nI (((1 + 16) + 8) + 4)))] d_jd_ntzI_61 (Nat.le_of_ble_eq_true rfl) rfl ?_
          refine Ex_iload_n d_jd_ntzI_62 rfl ?_
          refine Ex_iconst d_jd_ntzI_63 ic_4 ?_
          refine Ex_icmp_leN (3) (4) 74 d_jd_ntzI_64 rfl rfl rfl (by omega) (by omega) (fun hc64 => ?_) (fun hc64 => ?_)
          · refine Ex_iload_n d_jd_ntzI_74 rfl ?_
            refine Ex_iload_n d_jd_ntzI_75 rfl ?_
            refine Ex_iconst d_jd_ntzI_76 ic_1 ?_
            refine Ex_iushr d_jd_ntzI_77 ?_
            rw [show ((((3 : Int32).toUInt32 >>> ((1 : Int32).toUInt32 &&& Int32.toUInt32 31)).toInt32) : Int32) = (1 : Int32) from (by decide)]
            refine Ex_iaddN (((1 + 16) + 8) + 4) (1) d_jd_ntzI_78 rfl rfl ?_
            refine Ex_ireturn d_jd_ntzI_79 rfl ?_
            exact ⟨rfl, rfl⟩
          · exact absurd hc64 (by decide)
  · exact absurd hc9 (by decide)
theorem ntz_31 {S : mj_S} {h : mj_H} : Ex S jd_ntzI 8 [some (.int (2147483647)), none] [] h (Pu (.int (nI 31)) h) := by
  refine Ex_iload_n d_jd_ntzI_8 rfl ?_
  refine Ex_if_gtN (2147483647) 17 d_jd_ntzI_9 rfl rfl (by omega) (fun hc9 => ?_) (fun hc9 => ?_)
  · refine Ex_iconst d_jd_ntzI_17 ic_1 ?_
    refine Ex_istore_n [some (.int (2147483647)), some (.int (1))] d_jd_ntzI_18 (Nat.le_of_ble_eq_true rfl) rfl ?_
    refine Ex_iload_n d_jd_ntzI_19 rfl ?_
    refine Ex_ldc_w pi_jdInteger_264 d_jd_ntzI_20 ?_
    refine Ex_icmp_leN (2147483647) (65536) 34 d_jd_ntzI_23 rfl rfl rfl (by omega) (by omega) (fun hc23 => ?_) (fun hc23 => ?_)
    · exact absurd hc23 (by decide)
    · refine Ex_iincN (1) 16 [some (.int (2147483647)), some (.int (nI (1 + 16)))] d_jd_ntzI_26 rfl rfl rfl rfl ?_
      refine Ex_iload_n d_jd_ntzI_29 rfl ?_
      refine Ex_bipush d_jd_ntzI_30 bp_16 ?_
      refine Ex_iushr d_jd_ntzI_32 ?_
      rw [show ((((2147483647 : Int32).toUInt32 >>> ((16 : Int32).toUInt32 &&& Int32.toUInt32 31)).toInt32) : Int32) = (32767 : Int32) from (by decide)]
      refine Ex_istore_n [some (.int (32767)), some (.int (nI (1 + 16)))] d_jd_ntzI_33 (Nat.le_of_ble_eq_true rfl) rfl ?_
      refine Ex_iload_n d_jd_ntzI_34 rfl ?_
      refine Ex_sipush d_jd_ntzI_35 sp_256 ?_
      refine Ex_icmp_leN (32767) (256) 49 d_jd_ntzI_38 rfl rfl rfl (by omega) (by omega) (fun hc38 => ?_) (fun hc38 => ?_)
      · exact absurd hc38 (by decide)
      · refine Ex_iincN (1 + 16) 8 [some (.int (32767)), some (.int (nI ((1 + 16) + 8)))] d_jd_ntzI_41 rfl rfl rfl rfl ?_
        refine Ex_iload_n d_jd_ntzI_44 rfl ?_
        refine Ex_bipush d_jd_ntzI_45 bp_8 ?_
        refine Ex_iushr d_jd_ntzI_47 ?_
        rw [show ((((32767 : Int32).toUInt32 >>> ((8 : Int32).toUInt32 &&& Int32.toUInt32 31)).toInt32) : Int32) = (127 : Int32) from (by decide)]
        refine Ex_istore_n [some (.int (127)), some (.int (nI ((1 + 16) + 8)))] d_jd_ntzI_48 (Nat.le_of_ble_eq_true rfl) rfl ?_
        refine Ex_iload_n d_jd_ntzI_49 rfl ?_
        refine Ex_bipush d_jd_ntzI_50 bp_16 ?_
        refine Ex_icmp_leN (127) (16) 62 d_jd_ntzI_52 rfl rfl rfl (by omega) (by omega) (fun hc52 => ?_) (fun hc52 => ?_)
        · exact absurd hc52 (by decide)
        · refine Ex_iincN ((1 + 16) + 8) 4 [some (.int (127)), some (.int (nI (((1 + 16) + 8) + 4)))] d_jd_ntzI_55 rfl rfl rfl rfl ?_
          refine Ex_iload_n d_jd_ntzI_58 rfl ?_
          refine Ex_iconst d_jd_ntzI_59 ic_4 ?_
          refine Ex_iushr d_jd_ntzI_60 ?_
          rw [show ((((127 : Int32).toUInt32 >>> ((4 : Int32).toUInt32 &&& Int32.toUInt32 31)).toInt32) : Int32) = (7 : Int32) from (by decide)]
          refine Ex_istore_n [some (.int (7)), some (.int (nI (((1 + 16) + 8) + 4)))] d_jd_ntzI_61 (Nat.le_of_ble_eq_true rfl) rfl ?_
          refine Ex_iload_n d_jd_ntzI_62 rfl ?_
          refine Ex_iconst d_jd_ntzI_63 ic_4 ?_
          refine Ex_icmp_leN (7) (4) 74 d_jd_ntzI_64 rfl rfl rfl (by omega) (by omega) (fun hc64 => ?_) (fun hc64 => ?_)
          · exact absurd hc64 (by decide)
          · refine Ex_iincN (((1 + 16) + 8) + 4) 2 [some (.int (7)), some (.int (nI ((((1 + 16) + 8) + 4) + 2)))] d_jd_ntzI_67 rfl rfl rfl rfl ?_
            refine Ex_iload_n d_jd_ntzI_70 rfl ?_
            refine Ex_iconst d_jd_ntzI_71 ic_2 ?_
            refine Ex_iushr d_jd_ntzI_72 ?_
            rw [show ((((7 : Int32).toUInt32 >>> ((2 : Int32).toUInt32 &&& Int32.toUInt32 31)).toInt32) : Int32) = (1 : Int32) from (by decide)]
            refine Ex_istore_n [some (.int (1)), some (.int (nI ((((1 + 16) + 8) + 4) + 2)))] d_jd_ntzI_73 (Nat.le_of_ble_eq_true rfl) rfl ?_
            refine Ex_iload_n d_jd_ntzI_74 rfl ?_
            refine Ex_iload_n d_jd_ntzI_75 rfl ?_
            refine Ex_iconst d_jd_ntzI_76 ic_1 ?_
            refine Ex_iushr d_jd_ntzI_77 ?_
            rw [show ((((1 : Int32).toUInt32 >>> ((1 : Int32).toUInt32 &&& Int32.toUInt32 31)).toInt32) : Int32) = (0 : Int32) from (by decide)]
            refine Ex_iaddN ((((1 + 16) + 8) + 4) + 2) (0) d_jd_ntzI_78 rfl rfl ?_
            refine Ex_ireturn d_jd_ntzI_79 rfl ?_
            exact ⟨rfl, rfl⟩
  · exact absurd hc9 (by decide)
