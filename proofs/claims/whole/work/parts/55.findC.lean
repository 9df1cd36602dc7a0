/-! The class: find. -/
def pc8 (x : Nat) : Nat := x % 2 + x / 2 % 2 + x / 4 % 2 + x / 8 % 2 + x / 16 % 2 + x / 32 % 2 + x / 64 % 2 + x / 128 % 2
def kb8 (b0 b1 b2 b3 b4 b5 b6 b7 : Bool) : Nat := 0 + (if b0 = true then 2 ^ 0 else 0) + (if b1 = true then 2 ^ 1 else 0) + (if b2 = true then 2 ^ 2 else 0) + (if b3 = true then 2 ^ 3 else 0) + (if b4 = true then 2 ^ 4 else 0) + (if b5 = true then 2 ^ 5 else 0) + (if b6 = true then 2 ^ 6 else 0) + (if b7 = true then 2 ^ 7 else 0)
theorem kb8_pc : ∀ b0 b1 b2 b3 b4 b5 b6 b7 : Bool, pc8 (kb8 b0 b1 b2 b3 b4 b5 b6 b7) = (if b0 = true then 1 else 0) + ((if b1 = true then 1 else 0) + ((if b2 = true then 1 else 0) + ((if b3 = true then 1 else 0) + ((if b4 = true then 1 else 0) + ((if b5 = true then 1 else 0) + ((if b6 = true then 1 else 0) + ((if b7 = true then 1 else 0) + 0))))))) := by decide +kernel
theorem kb8_bit : ∀ b0 b1 b2 b3 b4 b5 b6 b7 : Bool, kb8 b0 b1 b2 b3 b4 b5 b6 b7 / 2 ^ 0 % 2 = (if b0 = true then 1 else 0) ∧ kb8 b0 b1 b2 b3 b4 b5 b6 b7 / 2 ^ 1 % 2 = (if b1 = true then 1 else 0) ∧ kb8 b0 b1 b2 b3 b4 b5 b6 b7 / 2 ^ 2 % 2 = (if b2 = true then 1 else 0) ∧ kb8 b0 b1 b2 b3 b4 b5 b6 b7 / 2 ^ 3 % 2 = (if b3 = true then 1 else 0) ∧ kb8 b0 b1 b2 b3 b4 b5 b6 b7 / 2 ^ 4 % 2 = (if b4 = true then 1 else 0) ∧ kb8 b0 b1 b2 b3 b4 b5 b6 b7 / 2 ^ 5 % 2 = (if b5 = true then 1 else 0) ∧ kb8 b0 b1 b2 b3 b4 b5 b6 b7 / 2 ^ 6 % 2 = (if b6 = true then 1 else 0) ∧ kb8 b0 b1 b2 b3 b4 b5 b6 b7 / 2 ^ 7 % 2 = (if b7 = true then 1 else 0) := by decide +kernel
theorem kbits8 (f : Nat → Bool) : kbits f 8 = kb8 (f 0) (f 1) (f 2) (f 3) (f 4) (f 5) (f 6) (f 7) := rfl
theorem pc_kb (g : Nat → Bool) (t : Nat) : pc8 (kbits (fun m => g (t + m)) 8) = cnB g t 8 := by
  rw [kbits8, kb8_pc]
  rfl
theorem bit_kb (f : Nat → Bool) {m : Nat} (hm : m < 8) : kbits f 8 / 2 ^ m % 2 = if f m = true then 1 else 0 := by
  rw [kbits8]
  obtain ⟨h0, h1, h2, h3, h4, h5, h6, h7⟩ := kb8_bit (f 0) (f 1) (f 2) (f 3) (f 4) (f 5) (f 6) (f 7)
  match m, hm with
  | 0, _ => exact h0
  | 1, _ => exact h1
  | 2, _ => exact h2
  | 3, _ => exact h3
  | 4, _ => exact h4
  | 5, _ => exact h5
  | 6, _ => exact h6
  | 7, _ => exact h7
theorem bc8 : ∀ x, x < 256 → ((((((((nI x) - ((((nI x).toUInt32 >>> ((1 : Int32).toUInt32 &&& Int32.toUInt32 31)).toInt32) &&& (1431655765 : Int32))) &&& (858993459 : Int32)) + (((((nI x) - ((((nI x).toUInt32 >>> ((1 : Int32).toUInt32 &&& Int32.toUInt32 31)).toInt32) &&& (1431655765 : Int32))).toUInt32 >>> ((2 : Int32).toUInt32 &&& Int32.toUInt32 31)).toInt32) &&& (858993459 : Int32))) + ((((((nI x) - ((((nI x).toUInt32 >>> ((1 : Int32).toUInt32 &&& Int32.toUInt32 31)).toInt32) &&& (1431655765 : Int32))) &&& (858993459 : Int32)) + (((((nI x) - ((((nI x).toUInt32 >>> ((1 : Int32).toUInt32 &&& Int32.toUInt32 31)).toInt32) &&& (1431655765 : Int32))).toUInt32 >>> ((2 : Int32).toUInt32 &&& Int32.toUInt32 31)).toInt32) &&& (858993459 : Int32))).toUInt32 >>> ((4 : Int32).toUInt32 &&& Int32.toUInt32 31)).toInt32)) &&& (252645135 : Int32)) + ((((((((nI x) - ((((nI x).toUInt32 >>> ((1 : Int32).toUInt32 &&& Int32.toUInt32 31)).toInt32) &&& (1431655765 : Int32))) &&& (858993459 : Int32)) + (((((nI x) - ((((nI x).toUInt32 >>> ((1 : Int32).toUInt32 &&& Int32.toUInt32 31)).toInt32) &&& (1431655765 : Int32))).toUInt32 >>> ((2 : Int32).toUInt32 &&& Int32.toUInt32 31)).toInt32) &&& (858993459 : Int32))) + ((((((nI x) - ((((nI x).toUInt32 >>> ((1 : Int32).toUInt32 &&& Int32.toUInt32 31)).toInt32) &&& (1431655765 : Int32))) &&& (858993459 : Int32)) + (((((nI x) - ((((nI x).toUInt32 >>> ((1 : Int32).toUInt32 &&& Int32.toUInt32 31)).toInt32) &&& (1431655765 : Int32))).toUInt32 >>> ((2 : Int32).toUInt32 &&& Int32.toUInt32 31)).toInt32) &&& (858993459 : Int32))).toUInt32 >>> ((4 : Int32).toUInt32 &&& Int32.toUInt32 31)).toInt32)) &&& (252645135 : Int32)).toUInt32 >>> ((8 : Int32).toUInt32 &&& Int32.toUInt32 31)).toInt32)) + (((((((((nI x) - ((((nI x).toUInt32 >>> ((1 : Int32).toUInt32 &&& Int32.toUInt32 31)).toInt32) &&& (1431655765 : Int32))) &&& (858993459 : Int32)) + (((((nI x) - ((((nI x).toUInt32 >>> ((1 : Int32).toUInt32 &&& Int32.toUInt32 31)).toInt32) &&& (1431655765 : Int32))).toUInt32 >>> ((2 : Int32).toUInt32 &&& Int32.toUInt32 31)).toInt32) &&& (858993459 : Int32))) + ((((((nI x) - ((((nI x).toUInt32 >>> ((1 : Int32).toUInt32 &&& Int32.toUInt32 31)).toInt32) &&& (1431655765 : Int32))) &&& (858993459 : Int32)) + (((((nI x) - ((((nI x).toUInt32 >>> ((1 : Int32).toUInt32 &&& Int32.toUInt32 31)).toInt32) &&& (1431655765 : Int32))).toUInt32 >>> ((2 : Int32).toUInt32 &&& Int32.toUInt32 31)).toInt32) &&& (858993459 : Int32))).toUInt32 >>> ((4 : Int32).toUInt32 &&& Int32.toUInt32 31)).toInt32)) &&& (252645135 : Int32)) + ((((((((nI x) - ((((nI x).toUInt32 >>> ((1 : Int32).toUInt32 &&& Int32.toUInt32 31)).toInt32) &&& (1431655765 : Int32))) &&& (858993459 : Int32)) + (((((nI x) - ((((nI x).toUInt32 >>> ((1 : Int32).toUInt32 &&& Int32.toUInt32 31)).toInt32) &&& (1431655765 : Int32))).toUInt32 >>> ((2 : Int32).toUInt32 &&& Int32.toUInt32 31)).toInt32) &&& (858993459 : Int32))) + ((((((nI x) - ((((nI x).toUInt32 >>> ((1 : Int32).toUInt32 &&& Int32.toUInt32 31)).toInt32) &&& (1431655765 : Int32))) &&& (858993459 : Int32)) + (((((nI x) - ((((nI x).toUInt32 >>> ((1 : Int32).toUInt32 &&& Int32.toUInt32 31)).toInt32) &&& (1431655765 : Int32))).toUInt32 >>> ((2 : Int32).toUInt32 &&& Int32.toUInt32 31)).toInt32) &&& (858993459 : Int32))).toUInt32 >>> ((4 : Int32).toUInt32 &&& Int32.toUInt32 31)).toInt32)) &&& (252645135 : Int32)).toUInt32 >>> ((8 : Int32).toUInt32 &&& Int32.toUInt32 31)).toInt32)).toUInt32 >>> ((16 : Int32).toUInt32 &&& Int32.toUInt32 31)).toInt32)) &&& (63 : Int32) = nI (pc8 x) := by decide +kernel
theorem jd_bcI_s {S : mj_S} {h : mj_H} {x : Nat} (hx : x < 256) : Cl S jd_bcI [.int (nI x)] h (Pu (.int (nI (pc8 x))) h) := by
  show Ex S jd_bcI 0 [some (.int (nI x))] [] h _
  refine Ex_iload_n d_jd_bcI_0 rfl ?_
  refine Ex_iload_n d_jd_bcI_1 rfl ?_
  refine Ex_iconst d_jd_bcI_2 ic_1 ?_
  refine Ex_iushr d_jd_bcI_3 ?_
  refine Ex_ldc_w pi_jdInteger_265 d_jd_bcI_4 ?_
  refine Ex_iand d_jd_bcI_7 ?_
  refine Ex_isub d_jd_bcI_8 ?_
  refine Ex_istore_n [some (.int ((nI x) - ((((nI x).toUInt32 >>> ((1 : Int32).toUInt32 &&& Int32.toUInt32 31)).toInt32) &&& (1431655765 : Int32))))] d_jd_bcI_9 (Nat.le_of_ble_eq_true rfl) rfl ?_
  refine Ex_iload_n d_jd_bcI_10 rfl ?_
  refine Ex_ldc_w pi_jdInteger_266 d_jd_bcI_11 ?_
  refine Ex_iand d_jd_bcI_14 ?_
  refine Ex_iload_n d_jd_bcI_15 rfl ?_
  refine Ex_iconst d_jd_bcI_16 ic_2 ?_
  refine Ex_iushr d_jd_bcI_17 ?_
  refine Ex_ldc_w pi_jdInteger_266 d_jd_bcI_18 ?_
  refine Ex_iand d_jd_bcI_21 ?_
  refine Ex_iadd d_jd_bcI_22 ?_
  refine Ex_istore_n [some (.int ((((nI x) - ((((nI x).toUInt32 >>> ((1 : Int32).toUInt32 &&& Int32.toUInt32 31)).toInt32) &&& (1431655765 : Int32))) &&& (858993459 : Int32)) + (((((nI x) - ((((nI x).toUInt32 >>> ((1 : Int32).toUInt32 &&& Int32.toUInt32 31)).toInt32) &&& (1431655765 : Int32))).toUInt32 >>> ((2 : Int32).toUInt32 &&& Int32.toUInt32 31)).toInt32) &&& (858993459 : Int32))))] d_jd_bcI_23 (Nat.le_of_ble_eq_true rfl) rfl ?_
  refine Ex_iload_n d_jd_bcI_24 rfl ?_
  refine Ex_iload_n d_jd_bcI_25 rfl ?_
  refine Ex_iconst d_jd_bcI_26 ic_4 ?_
  refine Ex_iushr d_jd_bcI_27 ?_
  refine Ex_iadd d_jd_bcI_28 ?_
  refine Ex_ldc_w pi_jdInteger_267 d_jd_bcI_29 ?_
  refine Ex_iand d_jd_bcI_32 ?_
  refine Ex_istore_n [some (.int ((((((nI x) - ((((nI x).toUInt32 >>> ((1 : Int32).toUInt32 &&& Int32.toUInt32 31)).toInt32) &&& (1431655765 : Int32))) &&& (858993459 : Int32)) + (((((nI x) - ((((nI x).toUInt32 >>> ((1 : Int32).toUInt32 &&& Int32.toUInt32 31)).toInt32) &&& (1431655765 : Int32))).toUInt32 >>> ((2 : Int32).toUInt32 &&& Int32.toUInt32 31)).toInt32) &&& (858993459 : Int32))) + ((((((nI x) - ((((nI x).toUInt32 >>> ((1 : Int32).toUInt32 &&& Int32.toUInt32 31)).toInt32) &&& (1431655765 : Int32))) &&& (858993459 : Int32)) + (((((nI x) - ((((nI x).toUInt32 >>> ((1 : Int32).toUInt32 &&& Int32.toUInt32 31)).toInt32) &&& (1431655765 : Int32))).toUInt32 >>> ((2 : Int32).toUInt32 &&& Int32.toUInt32 31)).toInt32) &&& (858993459 : Int32))).toUInt32 >>> ((4 : Int32).toUInt32 &&& Int32.toUInt32 31)).toInt32)) &&& (252645135 : Int32)))] d_jd_bcI_33 (Nat.le_of_ble_eq_true rfl) rfl ?_
  refine Ex_iload_n d_jd_bcI_34 rfl ?_
  refine Ex_iload_n d_jd_bcI_35 rfl ?_
  refine Ex_bipush d_jd_bcI_36 bp_8 ?_
  refine Ex_iushr d_jd_bcI_38 ?_
  refine Ex_iadd d_jd_bcI_39 ?_
  refine Ex_istore_n [some (.int (((((((nI x) - ((((nI x).toUInt32 >>> ((1 : Int32).toUInt32 &&& Int32.toUInt32 31)).toInt32) &&& (1431655765 : Int32))) &&& (858993459 : Int32)) + (((((nI x) - ((((nI x).toUInt32 >>> ((1 : Int32).toUInt32 &&& Int32.toUInt32 31)).toInt32) &&& (1431655765 : Int32))).toUInt32 >>> ((2 : Int32).toUInt32 &&& Int32.toUInt32 31)).toInt32) &&& (858993459 : Int32))) + ((((((nI x) - ((((nI x).toUInt32 >>> ((1 : Int32).toUInt32 &&& Int32.toUInt32 31)).toInt32) &&& (1431655765 : Int32))) &&& (858993459 : Int32)) + (((((nI x) - ((((nI x).toUInt32 >>> ((1 : Int32).toUInt32 &&& Int32.toUInt32 31)).toInt32) &&& (1431655765 : Int32))).toUInt32 >>> ((2 : Int32).toUInt32 &&& Int32.toUInt32 31)).toInt32) &&& (858993459 : Int32))).toUInt32 >>> ((4 : Int32).toUInt32 &&& Int32.toUInt32 31)).toInt32)) &&& (252645135 : Int32)) + ((((((((nI x) - ((((nI x).toUInt32 >>> ((1 : Int32).toUInt32 &&& Int32.toUInt32 31)).toInt32) &&& (1431655765 : Int32))) &&& (858993459 : Int32)) + (((((nI x) - ((((nI x).toUInt32 >>> ((1 : Int32).toUInt32 &&& Int32.toUInt32 31)).toInt32) &&& (1431655765 : Int32))).toUInt32 >>> ((2 : Int32).toUInt32 &&& Int32.toUInt32 31)).toInt32) &&& (858993459 : Int32))) + ((((((nI x) - ((((nI x).toUInt32 >>> ((1 : Int32).toUInt32 &&& Int32.toUInt32 31)).toInt32) &&& (1431655765 : Int32))) &&& (858993459 : Int32)) + (((((nI x) - ((((nI x).toUInt32 >>> ((1 : Int32).toUInt32 &&& Int32.toUInt32 31)).toInt32) &&& (1431655765 : Int32))).toUInt32 >>> ((2 : Int32).toUInt32 &&& Int32.toUInt32 31)).toInt32) &&& (858993459 : Int32))).toUInt32 >>> ((4 : Int32).toUInt32 &&& Int32.toUInt32 31)).toInt32)) &&& (252645135 : Int32)).toUInt32 >>> ((8 : Int32).toUInt32 &&& Int32.toUInt32 31)).toInt32)))] d_jd_bcI_40 (Nat.le_of_ble_eq_true rfl) rfl ?_
  refine Ex_iload_n d_jd_bcI_41 rfl ?_
  refine Ex_iload_n d_jd_bcI_42 rfl ?_
  refine Ex_bipush d_jd_bcI_43 bp_16 ?_
  refine Ex_iushr d_jd_bcI_45 ?_
  refine Ex_iadd d_jd_bcI_46 ?_
  refine Ex_istore_n [some (.int ((((((((nI x) - ((((nI x).toUInt32 >>> ((1 : Int32).toUInt32 &&& Int32.toUInt32 31)).toInt32) &&& (1431655765 : Int32))) &&& (858993459 : Int32)) + (((((nI x) - ((((nI x).toUInt32 >>> ((1 : Int32).toUInt32 &&& Int32.toUInt32 31)).toInt32) &&& (1431655765 : Int32))).toUInt32 >>> ((2 : Int32).toUInt32 &&& Int32.toUInt32 31)).toInt32) &&& (858993459 : Int32))) + ((((((nI x) - ((((nI x).toUInt32 >>> ((1 : Int32).toUInt32 &&& Int32.toUInt32 31)).toInt32) &&& (1431655765 : Int32))) &&& (858993459 : Int32)) + (((((nI x) - ((((nI x).toUInt32 >>> ((1 : Int32).toUInt32 &&& Int32.toUInt32 31)).toInt32) &&& (1431655765 : Int32))).toUInt32 >>> ((2 : Int32).toUInt32 &&& Int32.toUInt32 31)).toInt32) &&& (858993459 : Int32))).toUInt32 >>> ((4 : Int32).toUInt32 &&& Int32.toUInt32 31)).toInt32)) &&& (252645135 : Int32)) + ((((((((nI x) - ((((nI x).toUInt32 >>> ((1 : Int32).toUInt32 &&& Int32.toUInt32 31)).toInt32) &&& (1431655765 : Int32))) &&& (858993459 : Int32)) + (((((nI x) - ((((nI x).toUInt32 >>> ((1 : Int32).toUInt32 &&& Int32.toUInt32 31)).toInt32) &&& (1431655765 : Int32))).toUInt32 >>> ((2 : Int32).toUInt32 &&& Int32.toUInt32 31)).toInt32) &&& (858993459 : Int32))) + ((((((nI x) - ((((nI x).toUInt32 >>> ((1 : Int32).toUInt32 &&& Int32.toUInt32 31)).toInt32) &&& (1431655765 : Int32))) &&& (858993459 : Int32)) + (((((nI x) - ((((nI x).toUInt32 >>> ((1 : Int32).toUInt32 &&& Int32.toUInt32 31)).toInt32) &&& (1431655765 : Int32))).toUInt32 >>> ((2 : Int32).toUInt32 &&& Int32.toUInt32 31)).toInt32) &&& (858993459 : Int32))).toUInt32 >>> ((4 : Int32).toUInt32 &&& Int32.toUInt32 31)).toInt32)) &&& (252645135 : Int32)).toUInt32 >>> ((8 : Int32).toUInt32 &&& Int32.toUInt32 31)).toInt32)) + (((((((((nI x) - ((((nI x).toUInt32 >>> ((1 : Int32).toUInt32 &&& Int32.toUInt32 31)).toInt32) &&& (1431655765 : Int32))) &&& (858993459 : Int32)) + (((((nI x) - ((((nI x).toUInt32 >>> ((1 : Int32).toUInt32 &&& Int32.toUInt32 31)).toInt32) &&& (1431655765 : Int32))).toUInt32 >>> ((2 : Int32).toUInt32 &&& Int32.toUInt32 31)).toInt32) &&& (858993459 : Int32))) + ((((((nI x) - ((((nI x).toUInt32 >>> ((1 : Int32).toUInt32 &&& Int32.toUInt32 31)).toInt32) &&& (1431655765 : Int32))) &&& (858993459 : Int32)) + (((((nI x) - ((((nI x).toUInt32 >>> ((1 : Int32).toUInt32 &&& Int32.toUInt32 31)).toInt32) &&& (1431655765 : Int32))).toUInt32 >>> ((2 : Int32).toUInt32 &&& Int32.toUInt32 31)).toInt32) &&& (858993459 : Int32))).toUInt32 >>> ((4 : Int32).toUInt32 &&& Int32.toUInt32 31)).toInt32)) &&& (252645135 : Int32)) + ((((((((nI x) - ((((nI x).toUInt32 >>> ((1 : Int32).toUInt32 &&& Int32.toUInt32 31)).toInt32) &&& (1431655765 : Int32))) &&& (858993459 : Int32)) + (((((nI x) - ((((nI x).toUInt32 >>> ((1 : Int32).toUInt32 &&& Int32.toUInt32 31)).toInt32) &&& (1431655765 : Int32))).toUInt32 >>> ((2 : Int32).toUInt32 &&& Int32.toUInt32 31)).toInt32) &&& (858993459 : Int32))) + ((((((nI x) - ((((nI x).toUInt32 >>> ((1 : Int32).toUInt32 &&& Int32.toUInt32 31)).toInt32) &&& (1431655765 : Int32))) &&& (858993459 : Int32)) + (((((nI x) - ((((nI x).toUInt32 >>> ((1 : Int32).toUInt32 &&& Int32.toUInt32 31)).toInt32) &&& (1431655765 : Int32))).toUInt32 >>> ((2 : Int32).toUInt32 &&& Int32.toUInt32 31)).toInt32) &&& (858993459 : Int32))).toUInt32 >>> ((4 : Int32).toUInt32 &&& Int32.toUInt32 31)).toInt32)) &&& (252645135 : Int32)).toUInt32 >>> ((8 : Int32).toUInt32 &&& Int32.toUInt32 31)).toInt32)).toUInt32 >>> ((16 : Int32).toUInt32 &&& Int32.toUInt32 31)).toInt32)))] d_jd_bcI_47 (Nat.le_of_ble_eq_true rfl) rfl ?_
  refine Ex_iload_n d_jd_bcI_48 rfl ?_
  refine Ex_bipush d_jd_bcI_49 bp_63 ?_
  refine Ex_iand d_jd_bcI_51 ?_
  refine Ex_ireturn d_jd_bcI_52 rfl ?_
  exact ⟨congrArg (fun z => some (Value.int z)) (bc8 x hx), rfl⟩
def vb (t : Nat) (o : Option Nat) : Int := match o with
  | some u => (u : Int) - (t : Int)
  | none => -1
theorem to_bitAt_L {S : mj_S} {h : mj_H} {g : Nat → Bool} {t n : Nat} (hn : n < 2147483648) : ∀ e m b : Nat, m + e = 8 → b ≤ m → b ≤ n → Ex S to_bitAt 4 [some (.int (nI (kbits (fun m => g (t + m)) 8))), some (.int (nI (n))), some (.int (nI (b))), some (.int (nI (m)))] [] h (Pu (.int (J (vb t (sc g e (t + m) (n - b))))) h) := by
  have hkl := kbits_lt (fun m => g (t + m)) 8
  intro e
  induction e with
  | zero =>
    intro m b hme hb hbn
    obtain rfl : 8 = m := by omega
    refine Ex_iload_n d_to_bitAt_4 rfl ?_
    refine Ex_bipush d_to_bitAt_5 bp_8 ?_
    refine Ex_icmp_geN (8) (8) 35 d_to_bitAt_7 rfl rfl rfl (by omega) (by omega) (fun hc7 => ?_) (fun hc7 => ?_)
    · refine Ex_iconst d_to_bitAt_35 ic_m1 ?_
      refine Ex_ireturn d_to_bitAt_36 rfl ?_
      exact ⟨rfl, rfl⟩
    · exfalso; omega
  | succ e ih =>
    intro m b hme hb hbn
    have hbit := bit_kb (fun m => g (t + m)) (show m < 8 by omega)
    refine Ex_iload_n d_to_bitAt_4 rfl ?_
    refine Ex_bipush d_to_bitAt_5 bp_8 ?_
    refine Ex_icmp_geN (m) (8) 35 d_to_bitAt_7 rfl rfl rfl (by omega) (by omega) (fun hc7 => ?_) (fun hc7 => ?_)
    · exfalso; omega
    · refine Ex_iload_n d_to_bitAt_10 rfl ?_
      refine Ex_iload_n d_to_bitAt_11 rfl ?_
      refine Ex_ishr d_to_bitAt_12 ?_
      rw [show (((nI (kbits (fun m => g (t + m)) 8)) >>> ((nI (m)) &&& 31)) : Int32) = (nI ((kbits (fun m => g (t + m)) 8) / 2 ^ m)) from (nI_shr (by omega) (by omega))]
      refine Ex_iconst d_to_bitAt_13 ic_1 ?_
      refine Ex_iand d_to_bitAt_14 ?_
      rw [show (((nI ((kbits (fun m => g (t + m)) 8) / 2 ^ m)) &&& (1 : Int32)) : Int32) = (nI ((kbits (fun m => g (t + m)) 8) / 2 ^ m % 2)) from (nI_1m _)]
      refine Ex_iconst d_to_bitAt_15 ic_1 ?_
      refine Ex_icmp_neN ((kbits (fun m => g (t + m)) 8) / 2 ^ m % 2) (1) 29 d_to_bitAt_16 rfl rfl rfl (by omega) (by omega) (fun hc16 => ?_) (fun hc16 => ?_)
      · have hg : ¬ g (t + m) = true := fun z => by rw [if_pos z] at hbit; exact hc16 hbit
        refine Ex_iincN (m) 1 [some (.int (nI (kbits (fun m => g (t + m)) 8))), some (.int (nI (n))), some (.int (nI (b))), some (.int (nI (m + 1)))] d_to_bitAt_29 rfl rfl rfl rfl ?_
        refine Ex_goto 4 d_to_bitAt_32 rfl ?_
        rw [sc_f hg]
        exact ih (m + 1) b (by omega) (by omega) hbn
      · have hg : g (t + m) = true := by
          by_cases z : g (t + m) = true
          · exact z
          · exfalso
            rw [if_neg z] at hbit
            omega
        refine Ex_iload_n d_to_bitAt_19 rfl ?_
        refine Ex_iload_n d_to_bitAt_20 rfl ?_
        refine Ex_icmp_neN (b) (n) 26 d_to_bitAt_21 rfl rfl rfl (by omega) (by omega) (fun hc21 => ?_) (fun hc21 => ?_)
        · refine Ex_iincN (b) 1 [some (.int (nI (kbits (fun m => g (t + m)) 8))), some (.int (nI (n))), some (.int (nI (b + 1))), some (.int (nI (m)))] d_to_bitAt_26 rfl rfl rfl rfl ?_
          refine Ex_iincN (m) 1 [some (.int (nI (kbits (fun m => g (t + m)) 8))), some (.int (nI (n))), some (.int (nI (b + 1))), some (.int (nI (m + 1)))] d_to_bitAt_29 rfl rfl rfl rfl ?_
          refine Ex_goto 4 d_to_bitAt_32 rfl ?_
          rw [sc_t hg (by omega)]
          have z := ih (m + 1) (b + 1) (by omega) (by omega) (by omega)
          rw [show n - (b + 1) = n - b - 1 by omega] at z
          exact z
        · refine Ex_iload_n d_to_bitAt_24 rfl ?_
          refine Ex_ireturn d_to_bitAt_25 rfl ?_
          refine ⟨?_, rfl⟩
          rw [show n - b = 0 by omega, sc_t0 hg, nIJ]
          exact congrArg (fun z => some (Value.int (J z))) (show (m : Int) = ((t + m : Nat) : Int) - (t : Int) by omega)
theorem to_bitAt_s {S : mj_S} {h : mj_H} {g : Nat → Bool} {t n : Nat} (hn : n < 2147483648) : Cl S to_bitAt [.int (nI (kbits (fun m => g (t + m)) 8)), .int (nI (n))] h (Pu (.int (J (vb t (sc g 8 t n)))) h) := by
  show Ex S to_bitAt 0 [some (.int (nI (kbits (fun m => g (t + m)) 8))), some (.int (nI (n))), none, none] [] h _
  refine Ex_iconst d_to_bitAt_0 ic_0 ?_
  refine Ex_istore_n [some (.int (nI (kbits (fun m => g (t + m)) 8))), some (.int (nI (n))), some (.int (0)), none] d_to_bitAt_1 (Nat.le_of_ble_eq_true rfl) rfl ?_
  refine Ex_iconst d_to_bitAt_2 ic_0 ?_
  refine Ex_istore_n [some (.int (nI (kbits (fun m => g (t + m)) 8))), some (.int (nI (n))), some (.int (0)), some (.int (0))] d_to_bitAt_3 (Nat.le_of_ble_eq_true rfl) rfl ?_
  exact to_bitAt_L hn 8 0 0 (by omega) (by omega) (by omega)
theorem to_foundAt_L {S : mj_S} {h : mj_H} (hs : HT h) {g : Nat → Bool} (hF : ∀ x, x < 3600 → mI h 35 x = nI (kbits (fun m => g (8 * x + m)) 8)) {k : Nat} (hk : k < 2147483648) : ∀ e x b : Nat, x + e = 3600 → b ≤ 8 * x → b ≤ k → Ex S to_foundAt 4 [some (.ref 0), some (.int (nI (k))), some (.int (nI (b))), some (.int (nI (x))), none, none, none] [] h (Pu (.int (J (vO (sc g (28800 - 8 * x) (8 * x) (k - b))))) h) := by
  intro e
  induction e with
  | zero =>
    intro x b hxe hb hbk
    obtain rfl : 3600 = x := by omega
    refine Ex_iload_n d_to_foundAt_4 rfl ?_
    refine Ex_aload_n d_to_foundAt_5 rfl ?_
    refine Ex_getR (v := .ref 35) d_to_foundAt_6 pf_to_74 rfl (t_0 hs) (r_0_8 hs) ?_
    refine Ex_arraylength d_to_foundAt_9 (t_35 hs) (by decide) ?_
    refine Ex_icmp_geN (3600) (3600) 81 d_to_foundAt_10 rfl rfl rfl (by omega) (by omega) (fun hc10 => ?_) (fun hc10 => ?_)
    · refine Ex_iconst d_to_foundAt_81 ic_m1 ?_
      refine Ex_ireturn d_to_foundAt_82 rfl ?_
      exact ⟨rfl, rfl⟩
    · exfalso; omega
  | succ e ih =>
    intro x b hxe hb hbk
    have hkl := kbits_lt (fun m => g (8 * x + m)) 8
    have hpc := pc_kb g (8 * x)
    have hcl := cnB_le g 8 (8 * x)
    rw [show 28800 - 8 * x = 28800 - 8 * (x + 1) + 8 by omega]
    refine Ex_iload_n d_to_foundAt_4 rfl ?_
    refine Ex_aload_n d_to_foundAt_5 rfl ?_
    refine Ex_getR (v := .ref 35) d_to_foundAt_6 pf_to_74 rfl (t_0 hs) (r_0_8 hs) ?_
    refine Ex_arraylength d_to_foundAt_9 (t_35 hs) (by decide) ?_
    refine Ex_icmp_geN (x) (3600) 81 d_to_foundAt_10 rfl rfl rfl (by omega) (by omega) (fun hc10 => ?_) (fun hc10 => ?_)
    · exfalso; omega
    · refine Ex_aload_n d_to_foundAt_13 rfl ?_
      refine Ex_getR (v := .ref 35) d_to_foundAt_14 pf_to_74 rfl (t_0 hs) (r_0_8 hs) ?_
      refine Ex_iload_n d_to_foundAt_17 rfl ?_
      refine Ex_ialoadN (a := x) (y := (nI (kbits (fun m => g (8 * x + m)) 8))) d_to_foundAt_18 (t_35 hs) rfl (by omega) (by decide) (hF x (by omega)) ?_
      refine Ex_pS1 (v := .int (nI (cnB g (8 * x) 8))) d_to_foundAt_19 pk_to_foundAt_353 (by rw [← hpc]; exact jd_bcI_s hkl) ?_
      refine Ex_istore [some (.ref 0), some (.int (nI (k))), some (.int (nI (b))), some (.int (nI (x))), some (.int (nI (cnB g (8 * x) 8))), none, none] d_to_foundAt_22 (Nat.le_of_ble_eq_true rfl) rfl ?_
      refine Ex_iload d_to_foundAt_24 rfl ?_
      refine Ex_iload_n d_to_foundAt_26 rfl ?_
      refine Ex_iload_n d_to_foundAt_27 rfl ?_
      refine Ex_isubN (k) (b) d_to_foundAt_28 rfl rfl (by omega) ?_
      refine Ex_icmp_leN (cnB g (8 * x) 8) (k - b) 70 d_to_foundAt_29 rfl rfl rfl (by omega) (by omega) (fun hc29 => ?_) (fun hc29 => ?_)
      · refine Ex_iload_n d_to_foundAt_70 rfl ?_
        refine Ex_iload d_to_foundAt_71 rfl ?_
        refine Ex_iaddN (b) (cnB g (8 * x) 8) d_to_foundAt_73 rfl rfl ?_
        refine Ex_istore_n [some (.ref 0), some (.int (nI (k))), some (.int (nI (b + (cnB g (8 * x) 8)))), some (.int (nI (x))), some (.int (nI (cnB g (8 * x) 8))), none, none] d_to_foundAt_74 (Nat.le_of_ble_eq_true rfl) rfl ?_
        refine Ex_iincN (x) 1 [some (.ref 0), some (.int (nI (k))), some (.int (nI (b + (cnB g (8 * x) 8)))), some (.int (nI (x + 1))), some (.int (nI (cnB g (8 * x) 8))), none, none] d_to_foundAt_75 rfl rfl rfl rfl ?_
        refine Ex_goto 4 d_to_foundAt_78 rfl ?_
        refine Ex_forget (ls' := [some (.ref 0), some (.int (nI (k))), some (.int (nI (b + (cnB g (8 * x) 8)))), some (.int (nI (x + 1))), none, none, none]) (sub_s (sub_s (sub_s (sub_s (sub_n (sub_n (sub_n sub_0))))))) ?_
        rw [sc_over 8 _ _ _ (by omega)]
        have z := ih (x + 1) (b + cnB g (8 * x) 8) (by omega) (by omega) (by omega)
        rw [show 8 * (x + 1) = 8 * x + 8 by omega, show k - (b + cnB g (8 * x) 8) = k - b - cnB g (8 * x) 8 by omega] at z
        exact z
      · obtain ⟨m1, h1, h2, h3⟩ := sc_in (g := g) 8 (28800 - 8 * (x + 1)) (8 * x) (k - b) (by omega)
        refine Ex_iload_n d_to_foundAt_32 rfl ?_
        refine Ex_bipush d_to_foundAt_33 bp_60 ?_
        refine Ex_idivN (x) (60) d_to_foundAt_35 rfl rfl (by omega) (by omega) ?_
        refine Ex_istore [some (.ref 0), some (.int (nI (k))), some (.int (nI (b))), some (.int (nI (x))), some (.int (nI (cnB g (8 * x) 8))), some (.int (nI (x / 60))), none] d_to_foundAt_36 (Nat.le_of_ble_eq_true rfl) rfl ?_
        refine Ex_iload_n d_to_foundAt_38 rfl ?_
        refine Ex_bipush d_to_foundAt_39 bp_60 ?_
        refine Ex_iremN (x) (60) d_to_foundAt_41 rfl rfl (by omega) (by omega) ?_
        refine Ex_istore [some (.ref 0), some (.int (nI (k))), some (.int (nI (b))), some (.int (nI (x))), some (.int (nI (cnB g (8 * x) 8))), some (.int (nI (x / 60))), some (.int (nI (x % 60)))] d_to_foundAt_42 (Nat.le_of_ble_eq_true rfl) rfl ?_
        refine Ex_sipush d_to_foundAt_44 sp_1000 ?_
        refine Ex_iload d_to_foundAt_47 rfl ?_
        refine Ex_imulN (1000) (x / 60) d_to_foundAt_49 rfl rfl ?_
        refine Ex_bipush d_to_foundAt_50 bp_10 ?_
        refine Ex_iload d_to_foundAt_52 rfl ?_
        refine Ex_imulN (10) (x % 60) d_to_foundAt_54 rfl rfl ?_
        refine Ex_iaddN (1000 * (x / 60)) (10 * (x % 60)) d_to_foundAt_55 rfl rfl ?_
        refine Ex_aload_n d_to_foundAt_56 rfl ?_
        refine Ex_getR (v := .ref 35) d_to_foundAt_57 pf_to_74 rfl (t_0 hs) (r_0_8 hs) ?_
        refine Ex_iload_n d_to_foundAt_60 rfl ?_
        refine Ex_ialoadN (a := x) (y := (nI (kbits (fun m => g (8 * x + m)) 8))) d_to_foundAt_61 (t_35 hs) rfl (by omega) (by decide) (hF x (by omega)) ?_
        refine Ex_iload_n d_to_foundAt_62 rfl ?_
        refine Ex_iload_n d_to_foundAt_63 rfl ?_
        refine Ex_isubN (k) (b) d_to_foundAt_64 rfl rfl (by omega) ?_
        refine Ex_pS2 (v := .int (nI (m1))) d_to_foundAt_65 pk_to_foundAt_358 (by have z := to_bitAt_s (S := S) (h := h) (g := g) (t := 8 * x) (n := k - b) (by omega); rw [h3, show vb (8 * x) (some (8 * x + m1)) = (m1 : Int) by show ((8 * x + m1 : Nat) : Int) - ((8 * x : Nat) : Int) = _; omega, ← nIJ] at z; exact z) ?_
        refine Ex_iaddN ((1000 * (x / 60)) + (10 * (x % 60))) (m1) d_to_foundAt_68 rfl rfl ?_
        refine Ex_ireturn d_to_foundAt_69 rfl ?_
        refine ⟨?_, rfl⟩
        rw [h2, nIJ]
        exact congrArg (fun z => some (Value.int (J z))) (by show _ = fV _; unfold fV; congr 1; omega)
theorem to_foundAt_s {S : mj_S} {h : mj_H} (hs : HT h) {g : Nat → Bool} (hF : ∀ x, x < 3600 → mI h 35 x = nI (kbits (fun m => g (8 * x + m)) 8)) {k : Nat} (hk : k < 2147483648) : Cl S to_foundAt [.ref 0, .int (nI (k))] h (Pu (.int (J (vO (sc g 28800 0 k)))) h) := by
  show Ex S to_foundAt 0 [some (.ref 0), some (.int (nI (k))), none, none, none, none, none] [] h _
  refine Ex_iconst d_to_foundAt_0 ic_0 ?_
  refine Ex_istore_n [some (.ref 0), some (.int (nI (k))), some (.int (0)), none, none, none, none] d_to_foundAt_1 (Nat.le_of_ble_eq_true rfl) rfl ?_
  refine Ex_iconst d_to_foundAt_2 ic_0 ?_
  refine Ex_istore_n [some (.ref 0), some (.int (nI (k))), some (.int (0)), some (.int (0)), none, none, none] d_to_foundAt_3 (Nat.le_of_ble_eq_true rfl) rfl ?_
  exact to_foundAt_L hs hF hk 3600 0 0 (by omega) (by omega) (by omega)
theorem fn_br {K : SK} {P : SP} {p q : Nat} {i : Int} {j : Int} {m : Nat} : fnP K P p q i j m ↔ (∀ a, a < tRp P q m → ∀ b, b < tCp P q m → lAt P (pPat P p) (i + (a : Int)) (j + (b : Int)) = some ((fun k => mvX K P q m (k / tCp P q m) (k % tCp P q m)) (a * tCp P q m + b))) := by
  constructor
  · intro z a ha b hb
    have q := z _ (idx_lt ha hb)
    rw [(idx_dm hb).1, (idx_dm hb).2] at q
    show cAt P p (i + (a : Int)) (j + (b : Int)) = some (mvX K P _ m ((a * tCp P _ m + b) / tCp P _ m) ((a * tCp P _ m + b) % tCp P _ m))
    rw [(idx_dm hb).1, (idx_dm hb).2]
    exact q
  · intro z k hk
    obtain ⟨g1, g2, -⟩ := dm_lt hk
    have q := z _ g1 _ g2
    rw [dm_eq] at q
    exact q
theorem fn_in {n : Nat} {K : SK} {P : SP} (hQ : PO n P) {p q i v m : Nat} (hp : p < pNp P) (hi : i < ln P p) (hR : 1 ≤ tRp P q m) (hC : 1 ≤ tCp P q m) (h : fnP K P p q (i : Int) (gO (lp P p) i + (v : Int)) m) : i + tRp P q m ≤ ln P p ∧ v + tCp P q m ≤ gL (lp P p) i := by
  have h := fn_br.mp h
  constructor
  · have z := h (tRp P q m - 1) (by omega) 0 (by omega)
    unfold lAt at z
    by_cases w : i + tRp P q m ≤ ln P p
    · exact w
    · rw [if_neg (by show ¬ (0 ≤ (i : Int) + ((tRp P q m - 1 : Nat) : Int) ∧ (i : Int) + ((tRp P q m - 1 : Nat) : Int) < ln P p); omega)] at z
      cases z
  · have z := h 0 (by omega) (tCp P q m - 1) (by omega)
    unfold lAt at z
    rw [if_pos (by show 0 ≤ (i : Int) + ((0 : Nat) : Int) ∧ (i : Int) + ((0 : Nat) : Int) < ln P p; omega), show ((i : Int) + ((0 : Nat) : Int)).toNat = i by omega] at z
    by_cases w : v + tCp P q m ≤ gL (lp P p) i
    · exact w
    · unfold rAt at z
      rw [if_neg (by show ¬ (pO P ((pPat P p).getD i 0) ≤ pO P ((pPat P p).getD i 0) + (v : Int) + ((tCp P q m - 1 : Nat) : Int) ∧ pO P ((pPat P p).getD i 0) + (v : Int) + ((tCp P q m - 1 : Nat) : Int) < pO P ((pPat P p).getD i 0) + (gL (lp P p) i : Nat)); omega)] at z
      cases z
theorem kb_f {f : Nat → Bool} {m : Nat} (h : ¬ f m = true) : kbits f (m + 1) = kbits f m := by
  show _ + _ = _
  rw [if_neg h, Nat.add_zero]
theorem kb_t {f : Nat → Bool} {m : Nat} (h : f m = true) : kbits f (m + 1) = kbits f m + 2 ^ m := by
  show _ + _ = _
  rw [if_pos h]
theorem to_mF_L1 {S : mj_S} {Q : Option Value → mj_H → Prop} {h : mj_H} (hs : HT h) {K : SK} (hK : KC K h) (hO : KO K) {P : SP} {Y : OW} (hP : PC P Y h) (hQ : PO K.1 P) {p x y : Nat} (hp : p < pNp P) (hx : PaC1 P Y h p x y) {q m : Nat} (hq : q < pNp P) (hg : fullP P q) (hm : m < 8) (hD : BkC (tnG K (whG P q) m) 33 34 h) {i : Nat} (hi : i + tRp P q m ≤ ln P p)
    (kx : ∀ h1 : mj_H, (Fr (fun a _ => a = 35) h h1 ∧ ∀ x, x < 3600 → mI h1 35 x = nI (kbits (fun m => fG K P p q (8 * x + m)) (if x < 60 * i + (gL (lp P p) i + 1 - tCp P q m) then m + 1 else m))) → Ex S to_markFound 105 [some (.ref 0), some (.ref (x)), some (.int (nI (m))), some (.int (nI (i))), some (.int (J (gO (lp P p) i))), some (.int (J (((gL (lp P p) i : Nat) : Int) - ((tCp P q m : Nat) : Int)))), some (.int (nI ((gL (lp P p) i + 1 - tCp P q m)))), none] [] h1 Q) : ∀ e v : Nat, v + e = (gL (lp P p) i + 1 - tCp P q m) → ∀ h1 : mj_H, (Fr (fun a _ => a = 35) h h1 ∧ ∀ x, x < 3600 → mI h1 35 x = nI (kbits (fun m => fG K P p q (8 * x + m)) (if x < 60 * i + v then m + 1 else m))) → Ex S to_markFound 43 [some (.ref 0), some (.ref (x)), some (.int (nI (m))), some (.int (nI (i))), some (.int (J (gO (lp P p) i))), some (.int (J (((gL (lp P p) i : Nat) : Int) - ((tCp P q m : Nat) : Int)))), some (.int (nI (v))), none] [] h1 Q := by
  have hok := hQ.2.2.2.1 p hp
  have hl60 : ln P p ≤ 60 := hok.1
  have hLO : LO K.1 (lp P p) := lv0_ok hQ hok
  have hB := hx.2.2
  have hS := Src_0 P (pPat P p)
  have hnp := hQ.2.2.1
  have hk40 := hO.1
  have hwe : gL (lp P p) 0 = wd P p := rfl
  have hle : (pPat P p).length = ln P p := rfl
  have hq60 : ln P q ≤ 60 := (hQ.2.2.2.1 q hq).1
  have hLQ : LO K.1 (lp P q) := lv0_ok hQ (hQ.2.2.2.1 q hq)
  have hv60 : wd P q ≤ 60 := (hLQ.2 0 hg.1).1.1
  have g1 := hg.1
  have g2 := hg.2.1
  have ht60 : (1 ≤ tRp P q m ∧ tRp P q m ≤ 60) ∧ 1 ≤ tCp P q m ∧ tCp P q m ≤ 60 := by unfold tRp tCp tR tC; split <;> omega
  have ht36 : tRp P q m * tCp P q m ≤ 60 * 60 := mul_le ht60.1.2 ht60.2.2
  have hli := (hLO.2 i (by show i < ln P p; omega)).1
  intro e
  induction e with
  | zero =>
    intro v hve h1 hI
    obtain rfl : (gL (lp P p) i + 1 - tCp P q m) = v := by omega
    refine Ex_iload d_to_markFound_43 rfl ?_
    refine Ex_iload d_to_markFound_45 rfl ?_
    refine Ex_icmp_gtZ ((((gL (lp P p) i + 1 - tCp P q m) : Nat) : Int)) (((gL (lp P p) i : Nat) : Int) - ((tCp P q m : Nat) : Int)) 105 d_to_markFound_47 rfl (nIJ _) rfl (by omega) (by omega) (fun hc47 => ?_) (fun hc47 => ?_)
    · exact kx h1 hI
    · exfalso; omega
  | succ e ih =>
    intro v hve h1 hI
    have f1 := hI.1
    have hs1 : HT h1 := f1.ht hs (by decide)
    have hP1 : PC P Y h1 := PC_fr hs f1 (by intro a k; unfold WRc WPc WHc; omega) OwE.rf hP
    have hx1 : PaC1 P Y h1 p x y := PaC1_fr hs f1 (by decide) (fun k => by have := hx.1.1; omega) (fun k => by have := hx.1.2.1; omega) OwE.rf hx
    have hD1 : BkC (tnG K (whG P q) m) 33 34 h1 := BkC_fr hs bk33 f1 (by intro x k; unfold Wbk; omega) hD
    have hB1 := hx1.2.2
    have hrd := hI.2 (60 * i + v) (by omega)
    rw [if_neg (by omega)] at hrd
    have hkb := kbits_lt (fun m => fG K P p q (8 * (60 * i + v) + m)) m
    have hpw : 2 ^ m ≤ 2 ^ 7 := Nat.pow_le_pow_right (by omega) (by omega)
    have hgt : fG K P p q (8 * (60 * i + v) + m) = tfB (fnP K P p q (i : Int) (gO (lp P p) i + (v : Int)) m) := by
      rw [show 8 * (60 * i + v) + m = 480 * i + 8 * v + m by omega, fG_at (by omega) hm]
      by_cases z : fnP K P p q (i : Int) (gO (lp P p) i + (v : Int)) m
      · rw [tfB_t z, tfB_t ⟨by omega, by omega, z⟩]
      · rw [tfB_f z, tfB_f (fun w => z w.2.2)]
    refine Ex_iload d_to_markFound_43 rfl ?_
    refine Ex_iload d_to_markFound_45 rfl ?_
    refine Ex_icmp_gtZ (((v : Nat) : Int)) (((gL (lp P p) i : Nat) : Int) - ((tCp P q m : Nat) : Int)) 105 d_to_markFound_47 rfl (nIJ _) rfl (by omega) (by omega) (fun hc47 => ?_) (fun hc47 => ?_)
    · exfalso; omega
    · refine Ex_iload_n d_to_markFound_50 rfl ?_
      refine Ex_bipush d_to_markFound_51 bp_60 ?_
      refine Ex_imulN (i) (60) d_to_markFound_53 rfl rfl ?_
      refine Ex_iload d_to_markFound_54 rfl ?_
      refine Ex_iaddN (i * 60) (v) d_to_markFound_56 rfl rfl ?_
      rw [show ((nI ((i * 60) + v)) : Int32) = (nI (60 * i + v)) from (by rw [Nat.mul_comm i 60])]
      refine Ex_istore [some (.ref 0), some (.ref (x)), some (.int (nI (m))), some (.int (nI (i))), some (.int (J (gO (lp P p) i))), some (.int (J (((gL (lp P p) i : Nat) : Int) - ((tCp P q m : Nat) : Int)))), some (.int (nI (v))), some (.int (nI (60 * i + v)))] d_to_markFound_57 (Nat.le_of_ble_eq_true rfl) rfl ?_
      refine Ex_iload d_to_markFound_59 rfl ?_
      refine Ex_aload_n d_to_markFound_61 rfl ?_
      refine Ex_getR (v := .ref 35) d_to_markFound_62 pf_to_74 rfl (t_0 hs1) (r_0_8 hs1) ?_
      refine Ex_arraylength d_to_markFound_65 (t_35 hs1) (by decide) ?_
      refine Ex_icmp_geN (60 * i + v) (3600) 99 d_to_markFound_66 rfl rfl rfl (by omega) (by omega) (fun hc66 => ?_) (fun hc66 => ?_)
      · exfalso; omega
      · refine Ex_aload_n d_to_markFound_69 rfl ?_
        refine Ex_aload_n d_to_markFound_70 rfl ?_
        refine Ex_getR (v := .ref 33) d_to_markFound_71 pf_to_71 rfl (t_0 hs1) (r_0_7 hs1) ?_
        refine Ex_iload_n d_to_markFound_74 rfl ?_
        refine Ex_iload d_to_markFound_75 rfl ?_
        refine Ex_iload d_to_markFound_77 rfl ?_
        refine Ex_iaddZ (gO (lp P p) i) (((v : Nat) : Int)) d_to_markFound_79 rfl (nIJ _) ?_
        refine Ex_pV3 (v := .int (bI (tfB (∀ a, a < tRp P q m → ∀ b, b < tCp P q m → lAt P (pPat P p) ((i : Int) + (a : Int)) (gO (lp P p) i + (v : Int) + (b : Int)) = some ((fun k => mvX K P q m (k / tCp P q m) (k % tCp P q m)) (a * tCp P q m + b)))))) d_to_markFound_80 pk_to_markFound_349 hB1.1.1 (pa_bears_s (X := (fun k => mvX K P q m (k / tCp P q m) (k % tCp P q m))) (D := tnG K (whG P q) m) hs1 hP1.1 hO.1 hQ hB1 hok hD1 (show tRp P q m * tCp P q m ≤ 3600 by omega) (show tRp P q m ≤ 60 ∧ 1 ≤ tCp P q m ∧ tCp P q m ≤ 60 by omega) (fun k hk => ⟨wh_mv hQ hq hg hk, by obtain ⟨g1, g2, -⟩ := dm_lt hk; exact mvX_ok hO hQ hq hg g1 g2⟩) (by omega) (by omega)) ?_
        refine Ex_if_eqB (tfB (∀ a, a < tRp P q m → ∀ b, b < tCp P q m → lAt P (pPat P p) ((i : Int) + (a : Int)) (gO (lp P p) i + (v : Int) + (b : Int)) = some ((fun k => mvX K P q m (k / tCp P q m) (k % tCp P q m)) (a * tCp P q m + b)))) 99 d_to_markFound_83 rfl rfl (fun hc83 => ?_) (fun hc83 => ?_)
        · refine Ex_iincN (v) 1 [some (.ref 0), some (.ref (x)), some (.int (nI (m))), some (.int (nI (i))), some (.int (J (gO (lp P p) i))), some (.int (J (((gL (lp P p) i : Nat) : Int) - ((tCp P q m : Nat) : Int)))), some (.int (nI (v + 1))), some (.int (nI (60 * i + v)))] d_to_markFound_99 rfl rfl rfl rfl ?_
          refine Ex_goto 43 d_to_markFound_102 rfl ?_
          refine Ex_forget (ls' := [some (.ref 0), some (.ref (x)), some (.int (nI (m))), some (.int (nI (i))), some (.int (J (gO (lp P p) i))), some (.int (J (((gL (lp P p) i : Nat) : Int) - ((tCp P q m : Nat) : Int)))), some (.int (nI (v + 1))), none]) (sub_s (sub_s (sub_s (sub_s (sub_s (sub_s (sub_s (sub_n sub_0)))))))) ?_
          have hgv : ¬ fG K P p q (8 * (60 * i + v) + m) = true := by rw [hgt]; exact fun w => tfB_ff hc83 (fn_br.mp (tfB_iff.mp w))
          refine ih (v + 1) (by omega) _ ⟨f1, fun x hx2 => ?_⟩
          by_cases hxv : x = 60 * i + v
          · subst hxv
            rw [if_pos (by omega), hrd, kb_f (f := fun m => fG K P p q (8 * (60 * i + v) + m)) hgv]
          · rw [hI.2 x hx2]
            by_cases hlt : x < 60 * i + v
            · rw [if_pos hlt, if_pos (by omega)]
            · rw [if_neg hlt, if_neg (by omega)]
        · refine Ex_aload_n d_to_markFound_86 rfl ?_
          refine Ex_getR (v := .ref 35) d_to_markFound_87 pf_to_74 rfl (t_0 hs1) (r_0_8 hs1) ?_
          refine Ex_iload d_to_markFound_90 rfl ?_
          refine Ex_dup2 rfl rfl d_to_markFound_92 ?_
          refine Ex_ialoadN (a := 60 * i + v) (y := (nI (kbits (fun m => fG K P p q (8 * (60 * i + v) + m)) m))) d_to_markFound_93 (t_35 hs1) rfl (by omega) (by decide) hrd ?_
          refine Ex_iconst d_to_markFound_94 ic_1 ?_
          refine Ex_iload_n d_to_markFound_95 rfl ?_
          refine Ex_ishl d_to_markFound_96 ?_
          rw [show (((1 : Int32) <<< ((nI (m)) &&& 31)) : Int32) = (nI (2 ^ m)) from (show (1 : Int32) <<< (nI m &&& 31) = nI (2 ^ m) by have z := nI_shl 1 (j := m) (by omega); rw [Nat.one_mul] at z; exact z)]
          refine Ex_ior d_to_markFound_97 ?_
          rw [show (((nI (kbits (fun m => fG K P p q (8 * (60 * i + v) + m)) m)) ||| (nI (2 ^ m))) : Int32) = (nI (kbits (fun m => fG K P p q (8 * (60 * i + v) + m)) m + 2 ^ m)) from (kb_or hkb)]
          refine Ex_iastoreN (a := 60 * i + v) d_to_markFound_98 (t_35 hs1) rfl (by omega) (by decide) ?_
          refine Ex_iincN (v) 1 [some (.ref 0), some (.ref (x)), some (.int (nI (m))), some (.int (nI (i))), some (.int (J (gO (lp P p) i))), some (.int (J (((gL (lp P p) i : Nat) : Int) - ((tCp P q m : Nat) : Int)))), some (.int (nI (v + 1))), some (.int (nI (60 * i + v)))] d_to_markFound_99 rfl rfl rfl rfl ?_
          refine Ex_goto 43 d_to_markFound_102 rfl ?_
          refine Ex_forget (ls' := [some (.ref 0), some (.ref (x)), some (.int (nI (m))), some (.int (nI (i))), some (.int (J (gO (lp P p) i))), some (.int (J (((gL (lp P p) i : Nat) : Int) - ((tCp P q m : Nat) : Int)))), some (.int (nI (v + 1))), none]) (sub_s (sub_s (sub_s (sub_s (sub_s (sub_s (sub_s (sub_n sub_0)))))))) ?_
          have hgv : fG K P p q (8 * (60 * i + v) + m) = true := by rw [hgt]; exact tfB_t (fn_br.mpr (tfB_iff.mp hc83))
          refine ih (v + 1) (by omega) _ ⟨Fr.sI f1 rfl, fun x hx2 => ?_⟩
          by_cases hxv : x = 60 * i + v
          · subst hxv
            rw [if_pos (by omega), mI_self, kb_t (f := fun m => fG K P p q (8 * (60 * i + v) + m)) hgv]
          · rw [mI_oth (Or.inr hxv), hI.2 x hx2]
            by_cases hlt : x < 60 * i + v
            · rw [if_pos hlt, if_pos (by omega)]
            · rw [if_neg hlt, if_neg (by omega)]
theorem to_mF_L2 {S : mj_S} {h : mj_H} (hs : HT h) {K : SK} (hK : KC K h) (hO : KO K) {P : SP} {Y : OW} (hP : PC P Y h) (hQ : PO K.1 P) {p x y : Nat} (hp : p < pNp P) (hx : PaC1 P Y h p x y) {q m : Nat} (hq : q < pNp P) (hg : fullP P q) (hm : m < 8) (hD : BkC (tnG K (whG P q) m) 33 34 h) : ∀ e i : Nat, i + e = ln P p → ∀ h1 : mj_H, (Fr (fun a _ => a = 35) h h1 ∧ ∀ x, x < 3600 → mI h1 35 x = nI (kbits (fun m => fG K P p q (8 * x + m)) (if x < 60 * i then m + 1 else m))) → Ex S to_markFound 2 [some (.ref 0), some (.ref (x)), some (.int (nI (m))), some (.int (nI (i))), none, none, none, none] [] h1 (fun rv h' => rv = none ∧ (Fr (fun a _ => a = 35) h h' ∧ ∀ x, x < 3600 → mI h' 35 x = nI (kbits (fun m => fG K P p q (8 * x + m)) (if x < 3600 then m + 1 else m)))) := by
  have hok := hQ.2.2.2.1 p hp
  have hl60 : ln P p ≤ 60 := hok.1
  have hLO : LO K.1 (lp P p) := lv0_ok hQ hok
  have hB := hx.2.2
  have hS := Src_0 P (pPat P p)
  have hnp := hQ.2.2.1
  have hk40 := hO.1
  have hwe : gL (lp P p) 0 = wd P p := rfl
  have hle : (pPat P p).length = ln P p := rfl
  have hq60 : ln P q ≤ 60 := (hQ.2.2.2.1 q hq).1
  have hLQ : LO K.1 (lp P q) := lv0_ok hQ (hQ.2.2.2.1 q hq)
  have hv60 : wd P q ≤ 60 := (hLQ.2 0 hg.1).1.1
  have g1 := hg.1
  have g2 := hg.2.1
  have ht60 : (1 ≤ tRp P q m ∧ tRp P q m ≤ 60) ∧ 1 ≤ tCp P q m ∧ tCp P q m ≤ 60 := by unfold tRp tCp tR tC; split <;> omega
  have ht36 : tRp P q m * tCp P q m ≤ 60 * 60 := mul_le ht60.1.2 ht60.2.2
  have hfin : ∀ (i : Nat) (h1 : mj_H), ln P p < i + tRp P q m → (Fr (fun a _ => a = 35) h h1 ∧ ∀ x, x < 3600 → mI h1 35 x = nI (kbits (fun m => fG K P p q (8 * x + m)) (if x < 60 * i then m + 1 else m))) → (Fr (fun a _ => a = 35) h h1 ∧ ∀ x, x < 3600 → mI h1 35 x = nI (kbits (fun m => fG K P p q (8 * x + m)) (if x < 3600 then m + 1 else m))) := by
    intro i h1 hge hI
    refine ⟨hI.1, fun x hx2 => ?_⟩
    rw [hI.2 x hx2, if_pos hx2]
    by_cases hlt : x < 60 * i
    · rw [if_pos hlt]
    · rw [if_neg hlt, kb_f]
      intro z
      have z2 := tfB_iff.mp z
      rw [show (8 * x + m) / 480 = x / 60 by omega, show (8 * x + m) / 8 % 60 = x % 60 by omega, show (8 * x + m) % 8 = m by omega] at z2
      have := fn_in hQ hp z2.1 ht60.1.1 ht60.2.1 z2.2.2
      omega
  intro e
  induction e with
  | zero =>
    intro i hie h1 hI
    obtain rfl : ln P p = i := by omega
    have f1 := hI.1
    have hs1 : HT h1 := f1.ht hs (by decide)
    have hP1 : PC P Y h1 := PC_fr hs f1 (by intro a k; unfold WRc WPc WHc; omega) OwE.rf hP
    have hx1 : PaC1 P Y h1 p x y := PaC1_fr hs f1 (by decide) (fun k => by have := hx.1.1; omega) (fun k => by have := hx.1.2.1; omega) OwE.rf hx
    have hD1 : BkC (tnG K (whG P q) m) 33 34 h1 := BkC_fr hs bk33 f1 (by intro x k; unfold Wbk; omega) hD
    have hB1 := hx1.2.2
    refine Ex_iload_n d_to_markFound_2 rfl ?_
    refine Ex_aload_n d_to_markFound_3 rfl ?_
    refine Ex_getR (v := .ref 33) d_to_markFound_4 pf_to_71 rfl (t_0 hs1) (r_0_7 hs1) ?_
    refine Ex_getIE (y := (nI (tRp P q m))) d_to_markFound_7 pf_to_243 rfl (t_33 hs1) hD1.1 ?_
    refine Ex_iaddN (ln P p) (tRp P q m) d_to_markFound_10 rfl rfl ?_
    refine Ex_aload_n d_to_markFound_11 rfl ?_
    refine Ex_getIE (y := (nI (ln P p))) d_to_markFound_12 pf_to_143 rfl hB1.1.1 hB1.2.1 ?_
    refine Ex_icmp_gtN ((ln P p) + (tRp P q m)) (ln P p) 111 d_to_markFound_15 rfl rfl rfl (by omega) (by omega) (fun hc15 => ?_) (fun hc15 => ?_)
    · refine Ex_return d_to_markFound_111 rfl ?_
      exact ⟨rfl, hfin _ h1 (by omega) hI⟩
    · exfalso; omega
  | succ e ih =>
    intro i hie h1 hI
    have f1 := hI.1
    have hs1 : HT h1 := f1.ht hs (by decide)
    have hP1 : PC P Y h1 := PC_fr hs f1 (by intro a k; unfold WRc WPc WHc; omega) OwE.rf hP
    have hx1 : PaC1 P Y h1 p x y := PaC1_fr hs f1 (by decide) (fun k => by have := hx.1.1; omega) (fun k => by have := hx.1.2.1; omega) OwE.rf hx
    have hD1 : BkC (tnG K (whG P q) m) 33 34 h1 := BkC_fr hs bk33 f1 (by intro x k; unfold Wbk; omega) hD
    have hB1 := hx1.2.2
    have hi : i < ln P p := by omega
    have hli := (hLO.2 i hi).1
    refine Ex_iload_n d_to_markFound_2 rfl ?_
    refine Ex_aload_n d_to_markFound_3 rfl ?_
    refine Ex_getR (v := .ref 33) d_to_markFound_4 pf_to_71 rfl (t_0 hs1) (r_0_7 hs1) ?_
    refine Ex_getIE (y := (nI (tRp P q m))) d_to_markFound_7 pf_to_243 rfl (t_33 hs1) hD1.1 ?_
    refine Ex_iaddN (i) (tRp P q m) d_to_markFound_10 rfl rfl ?_
    refine Ex_aload_n d_to_markFound_11 rfl ?_
    refine Ex_getIE (y := (nI (ln P p))) d_to_markFound_12 pf_to_143 rfl hB1.1.1 hB1.2.1 ?_
    refine Ex_icmp_gtN (i + (tRp P q m)) (ln P p) 111 d_to_markFound_15 rfl rfl rfl (by omega) (by omega) (fun hc15 => ?_) (fun hc15 => ?_)
    · refine Ex_return d_to_markFound_111 rfl ?_
      exact ⟨rfl, hfin i h1 (by omega) hI⟩
    · refine Ex_aload_n d_to_markFound_18 rfl ?_
      refine Ex_iload_n d_to_markFound_19 rfl ?_
      refine Ex_pV1 (v := .int (J (gO (lp P p) i))) d_to_markFound_20 pk_to_markFound_215 hB1.1.1 (pa_off_u hs1 hP1.1 hQ hB1 hok hS hi) ?_
      refine Ex_istore [some (.ref 0), some (.ref (x)), some (.int (nI (m))), some (.int (nI (i))), some (.int (J (gO (lp P p) i))), none, none, none] d_to_markFound_23 (Nat.le_of_ble_eq_true rfl) rfl ?_
      refine Ex_aload_n d_to_markFound_25 rfl ?_
      refine Ex_iload_n d_to_markFound_26 rfl ?_
      refine Ex_pV1 (v := .int (nI (gL (lp P p) i))) d_to_markFound_27 pk_to_markFound_212 hB1.1.1 (pa_len_u hs1 hP1.1 hQ hB1 hok hS hi) ?_
      refine Ex_aload_n d_to_markFound_30 rfl ?_
      refine Ex_getR (v := .ref 33) d_to_markFound_31 pf_to_71 rfl (t_0 hs1) (r_0_7 hs1) ?_
      refine Ex_getIE (y := (nI (tCp P q m))) d_to_markFound_34 pf_to_254 rfl (t_33 hs1) hD1.2.1 ?_
      refine Ex_isubZ (((gL (lp P p) i : Nat) : Int)) (((tCp P q m : Nat) : Int)) d_to_markFound_37 (nIJ _) (nIJ _) ?_
      refine Ex_istore [some (.ref 0), some (.ref (x)), some (.int (nI (m))), some (.int (nI (i))), some (.int (J (gO (lp P p) i))), some (.int (J ((((gL (lp P p) i : Nat) : Int)) - (((tCp P q m : Nat) : Int))))), none, none] d_to_markFound_38 (Nat.le_of_ble_eq_true rfl) rfl ?_
      refine Ex_iconst d_to_markFound_40 ic_0 ?_
      refine Ex_istore [some (.ref 0), some (.ref (x)), some (.int (nI (m))), some (.int (nI (i))), some (.int (J (gO (lp P p) i))), some (.int (J ((((gL (lp P p) i : Nat) : Int)) - (((tCp P q m : Nat) : Int))))), some (.int (0)), none] d_to_markFound_41 (Nat.le_of_ble_eq_true rfl) rfl ?_
      refine to_mF_L1 hs hK hO hP hQ hp hx hq hg hm hD (i := i) (by omega) (fun h2 hI2 => ?_) (gL (lp P p) i + 1 - tCp P q m) 0 (by omega) h1 hI
      refine Ex_iincN (i) 1 [some (.ref 0), some (.ref (x)), some (.int (nI (m))), some (.int (nI (i + 1))), some (.int (J (gO (lp P p) i))), some (.int (J (((gL (lp P p) i : Nat) : Int) - ((tCp P q m : Nat) : Int)))), some (.int (nI ((gL (lp P p) i + 1 - tCp P q m)))), none] d_to_markFound_105 rfl rfl rfl rfl ?_
      refine Ex_goto 2 d_to_markFound_108 rfl ?_
      refine Ex_forget (ls' := [some (.ref 0), some (.ref (x)), some (.int (nI (m))), some (.int (nI (i + 1))), none, none, none, none]) (sub_s (sub_s (sub_s (sub_s (sub_n (sub_n (sub_n (sub_n sub_0)))))))) ?_
      refine ih (i + 1) (by omega) h2 ⟨hI2.1, fun x hx2 => ?_⟩
      rw [hI2.2 x hx2]
      by_cases hlt : x < 60 * i + (gL (lp P p) i + 1 - tCp P q m)
      · rw [if_pos hlt, if_pos (by omega)]
      · rw [if_neg hlt]
        by_cases hl2 : x < 60 * (i + 1)
        · rw [if_pos hl2, kb_f]
          intro z
          have z2 := tfB_iff.mp z
          rw [show (8 * x + m) / 480 = i by omega, show (8 * x + m) / 8 % 60 = x - 60 * i by omega, show (8 * x + m) % 8 = m by omega] at z2
          have := fn_in hQ hp z2.1 ht60.1.1 ht60.2.1 z2.2.2
          omega
        · rw [if_neg hl2]
theorem to_markFound_s {S : mj_S} {h : mj_H} (hs : HT h) {K : SK} (hK : KC K h) (hO : KO K) {P : SP} {Y : OW} (hP : PC P Y h) (hQ : PO K.1 P) {p x y : Nat} (hp : p < pNp P) (hx : PaC1 P Y h p x y) {q m : Nat} (hq : q < pNp P) (hg : fullP P q) (hm : m < 8) (hD : BkC (tnG K (whG P q) m) 33 34 h) (hF : ∀ x, x < 3600 → mI h 35 x = nI (kbits (fun m => fG K P p q (8 * x + m)) m)) : Cl S to_markFound [.ref 0, .ref (x), .int (nI (m))] h (fun rv h' => rv = none ∧ (Fr (fun a _ => a = 35) h h' ∧ ∀ x, x < 3600 → mI h' 35 x = nI (kbits (fun m => fG K P p q (8 * x + m)) (if x < 3600 then m + 1 else m)))) := by
  show Ex S to_markFound 0 [some (.ref 0), some (.ref (x)), some (.int (nI (m))), none, none, none, none, none] [] h _
  refine Ex_iconst d_to_markFound_0 ic_0 ?_
  refine Ex_istore_n [some (.ref 0), some (.ref (x)), some (.int (nI (m))), some (.int (0)), none, none, none, none] d_to_markFound_1 (Nat.le_of_ble_eq_true rfl) rfl ?_
  exact to_mF_L2 hs hK hO hP hQ hp hx hq hg hm hD (ln P p) 0 (by omega) h ⟨Fr.rf, fun x hx2 => by rw [if_neg (by omega)]; exact hF x hx2⟩
theorem to_find_L {S : mj_S} {Q : Option Value → mj_H → Prop} {h : mj_H} (hs : HT h) {K : SK} (hK : KC K h) (hO : KO K) {P : SP} {Y : OW} (hP : PC P Y h) (hQ : PO K.1 P) {p x y : Nat} (hp : p < pNp P) (hx : PaC1 P Y h p x y) {q x2 y2 : Nat} (hq : q < pNp P) (hx2 : PaC1 P Y h q x2 y2) (hg : fullP P q) {z1 z2 z3 : Int32}
    (kx : ∀ h1 : mj_H, (Fr WSc h h1 ∧ BkC (whG P q) 31 32 h1 ∧ ∀ x, x < 3600 → mI h1 35 x = nI (kbits (fun m => fG K P p q (8 * x + m)) 8)) → Ex S to_find 96 [some (.ref 0), some (.int (z1)), some (.int (z2)), some (.int (z3)), some (.ref (x)), some (.ref (x2)), some (.int (nI (8)))] [] h1 Q) : ∀ d m : Nat, m + d = 8 → ∀ h1 : mj_H, (Fr WSc h h1 ∧ BkC (whG P q) 31 32 h1 ∧ ∀ x, x < 3600 → mI h1 35 x = nI (kbits (fun m => fG K P p q (8 * x + m)) m)) → Ex S to_find 58 [some (.ref 0), some (.int (z1)), some (.int (z2)), some (.int (z3)), some (.ref (x)), some (.ref (x2)), some (.int (nI (m)))] [] h1 Q := by
  have hq60 : ln P q ≤ 60 := (hQ.2.2.2.1 q hq).1
  have hLQ : LO K.1 (lp P q) := lv0_ok hQ (hQ.2.2.2.1 q hq)
  have hv60 : wd P q ≤ 60 := (hLQ.2 0 hg.1).1.1
  have hcap : ln P q * wd P q ≤ 3600 := mul_le hq60 hv60
  intro d
  induction d with
  | zero =>
    intro m hkk h1 hI
    obtain rfl : 8 = m := by omega
    refine Ex_iload d_to_find_58 rfl ?_
    refine Ex_bipush d_to_find_60 bp_8 ?_
    refine Ex_icmp_geN (8) (8) 96 d_to_find_62 rfl rfl rfl (by omega) (by omega) (fun hc62 => ?_) (fun hc62 => ?_)
    · exact kx h1 hI
    · exfalso; omega
  | succ d ih =>
    intro m hkk h1 hI
    have f1 := hI.1
    have hs1 : HT h1 := f1.ht hs WSc_st
    have hP1 := PC_S hs f1 hP
    have hK1 := KC_S hs f1 hK
    have hx1 := PaC1_S hs f1 hx
    refine Ex_iload d_to_find_58 rfl ?_
    refine Ex_bipush d_to_find_60 bp_8 ?_
    refine Ex_icmp_geN (m) (8) 96 d_to_find_62 rfl rfl rfl (by omega) (by omega) (fun hc62 => ?_) (fun hc62 => ?_)
    · exfalso; omega
    · refine Ex_aload_n d_to_find_65 rfl ?_
      refine Ex_getR (v := .ref 33) d_to_find_66 pf_to_71 rfl (t_0 hs1) (r_0_7 hs1) ?_
      refine Ex_aload_n d_to_find_69 rfl ?_
      refine Ex_getR (v := .ref 31) d_to_find_70 pf_to_68 rfl (t_0 hs1) (r_0_6 hs1) ?_
      refine Ex_iload d_to_find_73 rfl ?_
      refine Ex_aload_n d_to_find_75 rfl ?_
      refine Ex_getR (v := .ref 1) d_to_find_76 pf_to_20 rfl (t_0 hs1) (r_0_0 hs1) ?_
      refine Ex_cV3 d_to_find_79 pk_to_find_239 (t_33 hs1) (bl_takeMoved_s hs1 bk33 bk31 (by decide) hK1 hO hI.2.1 hcap hcap (fun k hk => by rw [wh_at hQ hq hg hk]; obtain ⟨g1, g2, -⟩ := dm_lt hk; exact (hLQ.2 _ g1).2 _ (by rw [(hg.2.2 _ g1).2]; exact g2)) hq60 hv60 (m := m) (by omega)) ?_
      rintro rv h2 ⟨rfl, hD2, f2⟩
      have f2s : Fr WSc h1 h2 := f2.mono W33_S
      have hs2 : HT h2 := f2s.ht hs1 WSc_st
      have hP2 := PC_S hs1 f2s hP1
      have hK2 := KC_S hs1 f2s hK1
      have hx2b := PaC1_S hs1 f2s hx1
      have hI2 : BkC (whG P q) 31 32 h2 := BkC_fr hs1 bk31 f2 (by intro x k; unfold Wbk; omega) hI.2.1
      have hF2 : ∀ x, x < 3600 → mI h2 35 x = nI (kbits (fun m => fG K P p q (8 * x + m)) m) := fun x hx => by rw [f2.I (by have := HT_n hs1; omega) (by unfold Wbk; omega)]; exact hI.2.2 x hx
      show Ex S to_find 82 [some (.ref 0), some (.int (z1)), some (.int (z2)), some (.int (z3)), some (.ref (x)), some (.ref (x2)), some (.int (nI (m)))] [] h2 _
      refine Ex_aload_n d_to_find_82 rfl ?_
      refine Ex_aload d_to_find_83 rfl ?_
      refine Ex_iload d_to_find_85 rfl ?_
      refine Ex_cV2 d_to_find_87 pk_to_find_342 (t_0 hs2) (to_markFound_s hs2 hK2 hO hP2 hQ hp hx2b hq hg (by omega) hD2 hF2) ?_
      rintro rv h3 ⟨rfl, f3, hF3⟩
      show Ex S to_find 90 [some (.ref 0), some (.int (z1)), some (.int (z2)), some (.int (z3)), some (.ref (x)), some (.ref (x2)), some (.int (nI (m)))] [] h3 _
      refine Ex_iincN (m) 1 [some (.ref 0), some (.int (z1)), some (.int (z2)), some (.int (z3)), some (.ref (x)), some (.ref (x2)), some (.int (nI (m + 1)))] d_to_find_90 rfl rfl rfl rfl ?_
      refine Ex_goto 58 d_to_find_93 rfl ?_
      refine ih (m + 1) (by omega) h3 ⟨(f1.tr f2s).tr (f3.mono (by intro a k; unfold WSc; omega)), BkC_fr hs2 bk31 f3 (by intro x k; unfold Wbk; omega) hI2, fun x hx => ?_⟩
      rw [hF3 x hx, if_pos hx]
theorem to_find_s {S : mj_S} {h : mj_H} (hs : HT h) {K : SK} (hK : KC K h) (hO : KO K) {P : SP} {Y : OW} (hP : PC P Y h) (hQ : PO K.1 P) {p q k : Int} (hp : -2147483648 ≤ p ∧ p < 2147483648) (hq : -2147483648 ≤ q ∧ q < 2147483648) (hk : -2147483648 ≤ k ∧ k < 2147483648) : Cl S to_find [.ref 0, .int (J p), .int (J q), .int (J k)] h (PuF (.int (J (findS K P p q k))) WSc h) := by
  show Ex S to_find 0 [some (.ref 0), some (.int (J (p))), some (.int (J (q))), some (.int (J (k))), none, none, none] [] h _
  by_cases hpp : 0 ≤ p ∧ p < pNp P
  · by_cases hppq : 0 ≤ q ∧ q < pNp P
    · obtain ⟨x, y, hx⟩ := hP.2.1.2 p.toNat (by omega)
      have hB := hx.2.2
      have hok := hQ.2.2.2.1 p.toNat (by omega)
      have hlen := hok.1
      have hx74 := hx.1.1
      have hy74 := hx.1.2.1
      obtain ⟨xq, yq, hxq⟩ := hP.2.1.2 q.toNat (by omega)
      have hBq := hxq.2.2
      have hokq := hQ.2.2.2.1 q.toNat (by omega)
      have hlenq := hokq.1
      have hx74q := hxq.1.1
      have hy74q := hxq.1.2.1
      refine Ex_aload_n d_to_find_0 rfl ?_
      refine Ex_iload_n d_to_find_1 rfl ?_
      refine Ex_pV1 (v := .ref (x)) d_to_find_2 pk_to_find_139 (t_0 hs) (to_patternOf_z hs hP hQ hpp hx) ?_
      refine Ex_astore [some (.ref 0), some (.int (J (p))), some (.int (J (q))), some (.int (J (k))), some (.ref (x)), none, none] d_to_find_5 (Nat.le_of_ble_eq_true rfl) rfl ?_
      refine Ex_aload_n d_to_find_7 rfl ?_
      refine Ex_iload_n d_to_find_8 rfl ?_
      refine Ex_pV1 (v := .ref (xq)) d_to_find_9 pk_to_find_139 (t_0 hs) (to_patternOf_z hs hP hQ hppq hxq) ?_
      refine Ex_astore [some (.ref 0), some (.int (J (p))), some (.int (J (q))), some (.int (J (k))), some (.ref (x)), some (.ref (xq)), none] d_to_find_12 (Nat.le_of_ble_eq_true rfl) rfl ?_
      refine Ex_aload d_to_find_14 rfl ?_
      refine Ex_ifnull d_to_find_16 ?_
      refine Ex_aload d_to_find_19 rfl ?_
      refine Ex_ifnull d_to_find_21 ?_
      refine Ex_aload d_to_find_24 rfl ?_
      refine Ex_pV0 (v := .int (bI (tfB (fullP P q.toNat)))) d_to_find_26 pk_to_find_327 hBq.1.1 (pa_isFull_s hs hK hO hP hQ (by omega) hxq) ?_
      refine Ex_if_eqB (tfB (fullP P q.toNat)) 36 d_to_find_29 rfl rfl (fun hc29 => ?_) (fun hc29 => ?_)
      · refine Ex_iconst d_to_find_36 ic_m1 ?_
        refine Ex_ireturn d_to_find_37 rfl ?_
        exact ⟨by unfold findS; rw [if_neg (by rintro ⟨z1, z2, z3, z4, z5, z6⟩; first | omega | exact absurd (z5.symm.trans hc29) (by decide))]; rfl, Fr.rf⟩
      · refine Ex_iload_n d_to_find_32 rfl ?_
        refine Ex_if_geZ (k) 38 d_to_find_33 rfl rfl (by omega) (fun hc33 => ?_) (fun hc33 => ?_)
        · have hg := tfB_iff.mp hc29
          have hLQ : LO K.1 (lp P q.toNat) := lv0_ok hQ hokq
          have hv60 : wd P q.toNat ≤ 60 := (hLQ.2 0 hg.1).1.1
          have hcap : ln P q.toNat * wd P q.toNat ≤ 3600 := mul_le hlenq hv60
          refine Ex_aload_n d_to_find_38 rfl ?_
          refine Ex_getR (v := .ref 35) d_to_find_39 pf_to_74 rfl (t_0 hs) (r_0_8 hs) ?_
          refine Ex_iconst d_to_find_42 ic_0 ?_
          refine Ex_cS2 d_to_find_43 pk_to_find_336 (jd_fillI_s (m := 3600) (t_35 hs) (by omega)) ?_
          rintro rv hh ⟨rfl, rfl⟩
          have f0 : Fr WSc h (wA h 35 (flF (mI h 35) 0 3600)) := Fr.sA Fr.rf (fun k z => absurd (show WSc 35 k by unfold WSc; omega) z)
          have hs0 : HT (wA h 35 (flF (mI h 35) 0 3600)) := f0.ht hs WSc_st
          have hP0 := PC_S hs f0 hP
          have hK0 := KC_S hs f0 hK
          have hx0 := PaC1_S hs f0 hx
          have hxq0 := PaC1_S hs f0 hxq
          show Ex S to_find 46 [some (.ref 0), some (.int (J (p))), some (.int (J (q))), some (.int (J (k))), some (.ref (x)), some (.ref (xq)), none] [] (wA h 35 (flF (mI h 35) 0 3600)) _
          refine Ex_aload_n d_to_find_46 rfl ?_
          refine Ex_getR (v := .ref 31) d_to_find_47 pf_to_68 rfl (t_0 hs0) (r_0_6 hs0) ?_
          refine Ex_aload d_to_find_50 rfl ?_
          refine Ex_cV1 d_to_find_52 pk_to_find_328 (t_31 hs0) (bl_takeWhole_s hs0 hK0 hO hP0 hQ (show q.toNat < pNp P by omega) hxq0 hg bk31 hcap) ?_
          rintro rv h1 ⟨rfl, hD1, f1⟩
          have f1s := f1.mono W31_S
          have hs1 : HT h1 := f1s.ht hs0 WSc_st
          show Ex S to_find 55 [some (.ref 0), some (.int (J (p))), some (.int (J (q))), some (.int (J (k))), some (.ref (x)), some (.ref (xq)), none] [] h1 _
          refine Ex_iconst d_to_find_55 ic_0 ?_
          refine Ex_istore [some (.ref 0), some (.int (J (p))), some (.int (J (q))), some (.int (J (k))), some (.ref (x)), some (.ref (xq)), some (.int (0))] d_to_find_56 (Nat.le_of_ble_eq_true rfl) rfl ?_
          refine to_find_L hs hK hO hP hQ (p := p.toNat) (by omega) hx (q := q.toNat) (by omega) hxq hg (fun h2 hI => ?_) 8 0 (by omega) h1 ⟨f0.tr f1s, hD1, fun x hx => ?_⟩
          · have hs2 : HT h2 := hI.1.ht hs WSc_st
            have hfs : findS K P p q k = vO (sc (fG K P p.toNat q.toNat) 28800 0 k.toNat) := by unfold findS; rw [if_pos ⟨by omega, by omega, by omega, by omega, hc29, hc33⟩]
            refine Ex_aload_n d_to_find_96 rfl ?_
            refine Ex_iload_n d_to_find_97 rfl ?_
            refine Ex_pV1 (v := .int (J (findS K P p q k))) d_to_find_98 pk_to_find_346 (t_0 hs2) (by rw [hfs, J_pos hc33]; exact to_foundAt_s hs2 hI.2.2 (by omega)) ?_
            refine Ex_ireturn d_to_find_101 rfl ?_
            exact ⟨rfl, hI.1⟩
          · rw [f1.I (by have := HT_n hs0; omega) (by unfold Wbk; omega)]
            show mI (wA h 35 _) 35 x = _
            rw [mI_wA, if_pos rfl, flF_in hx]
            rfl
        · refine Ex_iconst d_to_find_36 ic_m1 ?_
          refine Ex_ireturn d_to_find_37 rfl ?_
          exact ⟨by unfold findS; rw [if_neg (by rintro ⟨z1, z2, z3, z4, z5, z6⟩; first | omega | exact absurd (z5.symm.trans hc29) (by decide))]; rfl, Fr.rf⟩
    · obtain ⟨x, y, hx⟩ := hP.2.1.2 p.toNat (by omega)
      have hB := hx.2.2
      have hok := hQ.2.2.2.1 p.toNat (by omega)
      have hlen := hok.1
      have hx74 := hx.1.1
      have hy74 := hx.1.2.1
      refine Ex_aload_n d_to_find_0 rfl ?_
      refine Ex_iload_n d_to_find_1 rfl ?_
      refine Ex_pV1 (v := .ref (x)) d_to_find_2 pk_to_find_139 (t_0 hs) (to_patternOf_z hs hP hQ hpp hx) ?_
      refine Ex_astore [some (.ref 0), some (.int (J (p))), some (.int (J (q))), some (.int (J (k))), some (.ref (x)), none, none] d_to_find_5 (Nat.le_of_ble_eq_true rfl) rfl ?_
      refine Ex_aload_n d_to_find_7 rfl ?_
      refine Ex_iload_n d_to_find_8 rfl ?_
      refine Ex_pV1 (v := .null) d_to_find_9 pk_to_find_139 (t_0 hs) (to_patternOf_n hs hP hQ hq hppq) ?_
      refine Ex_astore0 [some (.ref 0), some (.int (J (p))), some (.int (J (q))), some (.int (J (k))), some (.ref (x)), some (.null), none] d_to_find_12 (Nat.le_of_ble_eq_true rfl) rfl ?_
      refine Ex_aload d_to_find_14 rfl ?_
      refine Ex_ifnull d_to_find_16 ?_
      refine Ex_aload0 d_to_find_19 rfl ?_
      refine Ex_ifnull0 36 d_to_find_21 rfl ?_
      refine Ex_iconst d_to_find_36 ic_m1 ?_
      refine Ex_ireturn d_to_find_37 rfl ?_
      exact ⟨by unfold findS; rw [if_neg (by rintro ⟨z1, z2, z3, z4, z5, z6⟩; first | omega | exact absurd (z5.symm.trans hc29) (by decide))]; rfl, Fr.rf⟩
  · by_cases hppq : 0 ≤ q ∧ q < pNp P
    · obtain ⟨xq, yq, hxq⟩ := hP.2.1.2 q.toNat (by omega)
      have hBq := hxq.2.2
      have hokq := hQ.2.2.2.1 q.toNat (by omega)
      have hlenq := hokq.1
      have hx74q := hxq.1.1
      have hy74q := hxq.1.2.1
      refine Ex_aload_n d_to_find_0 rfl ?_
      refine Ex_iload_n d_to_find_1 rfl ?_
      refine Ex_pV1 (v := .null) d_to_find_2 pk_to_find_139 (t_0 hs) (to_patternOf_n hs hP hQ hp hpp) ?_
      refine Ex_astore0 [some (.ref 0), some (.int (J (p))), some (.int (J (q))), some (.int (J (k))), some (.null), none, none] d_to_find_5 (Nat.le_of_ble_eq_true rfl) rfl ?_
      refine Ex_aload_n d_to_find_7 rfl ?_
      refine Ex_iload_n d_to_find_8 rfl ?_
      refine Ex_pV1 (v := .ref (xq)) d_to_find_9 pk_to_find_139 (t_0 hs) (to_patternOf_z hs hP hQ hppq hxq) ?_
      refine Ex_astore [some (.ref 0), some (.int (J (p))), some (.int (J (q))), some (.int (J (k))), some (.null), some (.ref (xq)), none] d_to_find_12 (Nat.le_of_ble_eq_true rfl) rfl ?_
      refine Ex_aload0 d_to_find_14 rfl ?_
      refine Ex_ifnull0 36 d_to_find_16 rfl ?_
      refine Ex_iconst d_to_find_36 ic_m1 ?_
      refine Ex_ireturn d_to_find_37 rfl ?_
      exact ⟨by unfold findS; rw [if_neg (by rintro ⟨z1, z2, z3, z4, z5, z6⟩; first | omega | exact absurd (z5.symm.trans hc29) (by decide))]; rfl, Fr.rf⟩
    · refine Ex_aload_n d_to_find_0 rfl ?_
      refine Ex_iload_n d_to_find_1 rfl ?_
      refine Ex_pV1 (v := .null) d_to_find_2 pk_to_find_139 (t_0 hs) (to_patternOf_n hs hP hQ hp hpp) ?_
      refine Ex_astore0 [some (.ref 0), some (.int (J (p))), some (.int (J (q))), some (.int (J (k))), some (.null), none, none] d_to_find_5 (Nat.le_of_ble_eq_true rfl) rfl ?_
      refine Ex_aload_n d_to_find_7 rfl ?_
      refine Ex_iload_n d_to_find_8 rfl ?_
      refine Ex_pV1 (v := .null) d_to_find_9 pk_to_find_139 (t_0 hs) (to_patternOf_n hs hP hQ hq hppq) ?_
      refine Ex_astore0 [some (.ref 0), some (.int (J (p))), some (.int (J (q))), some (.int (J (k))), some (.null), some (.null), none] d_to_find_12 (Nat.le_of_ble_eq_true rfl) rfl ?_
      refine Ex_aload0 d_to_find_14 rfl ?_
      refine Ex_ifnull0 36 d_to_find_16 rfl ?_
      refine Ex_iconst d_to_find_36 ic_m1 ?_
      refine Ex_ireturn d_to_find_37 rfl ?_
      exact ⟨by unfold findS; rw [if_neg (by rintro ⟨z1, z2, z3, z4, z5, z6⟩; first | omega | exact absurd (z5.symm.trans hc29) (by decide))]; rfl, Fr.rf⟩
