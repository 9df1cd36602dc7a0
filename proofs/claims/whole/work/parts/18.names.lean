/-! Names: loops over the bytes of a long. -/
theorem sub_0 : mj_sub [] [] := trivial
theorem sub_n {a b : mj_L} {w : Option Value} (h : mj_sub a b) : mj_sub (none :: a) (w :: b) := h
theorem sub_s {a b : mj_L} {v : Value} (h : mj_sub a b) : mj_sub (some v :: a) (some v :: b) := ⟨rfl, h⟩
section MJW
variable {S : mj_S} {μ : mj_Y} {pc : Nat} {ls : mj_L} {st : List Value} {h : mj_H} {Q : Option Value → mj_H → Prop} {x : Int32}
theorem Ex_iincZ {j : Nat} {n : Int} (a c : Int) (ls' : mj_L) (hd : decode μ.2.1 pc = .ok (.iinc j n, 3)) (hl : ls[j]? = some (some (.int x))) (hx : x = J a) (hc : Int32.ofInt n = J c) (he : mj_st1 ls j (.int (J (a + c))) = ls') (k : Ex S μ (pc + 3) ls' st h Q) : Ex S μ pc ls st h Q := by
  subst hx; exact Ex_iinc (J c) ls' hd hl hc (by rw [J_add]; exact he) k
theorem lgc_eq (x y : Int64) : lg_cmp x y = 0 ↔ x = y := by
  unfold lg_cmp
  by_cases h1 : x > y
  · rw [if_pos h1]
    constructor
    · intro h; exact absurd h (by decide)
    · rintro rfl; exact absurd h1 (by simp)
  · rw [if_neg h1]
    by_cases h2 : x = y
    · rw [if_pos h2]; simp [h2]
    · rw [if_neg h2]
      constructor
      · intro h; exact absurd h (by decide)
      · intro h; exact absurd h h2
theorem lgc_gt (x y : Int64) : 0 < lg_cmp x y ↔ y < x := by
  unfold lg_cmp
  by_cases h1 : x > y
  · rw [if_pos h1]; exact ⟨fun _ => h1, fun _ => by decide⟩
  · rw [if_neg h1]
    by_cases h2 : x = y
    · rw [if_pos h2]; exact ⟨fun h => absurd h (by decide), fun h => absurd h h1⟩
    · rw [if_neg h2]; exact ⟨fun h => absurd h (by decide), fun h => absurd h h1⟩
theorem lgc_lt (x y : Int64) : lg_cmp x y < 0 ↔ x < y := by
  unfold lg_cmp
  by_cases h1 : x > y
  · rw [if_pos h1]
    refine ⟨fun h => absurd h (by decide), fun h => ?_⟩
    have h3 := Int64.lt_iff_toInt_lt.mp h1
    have h4 := Int64.lt_iff_toInt_lt.mp h
    omega
  · rw [if_neg h1]
    by_cases h2 : x = y
    · rw [if_pos h2]
      refine ⟨fun h => absurd h (by decide), fun h => ?_⟩
      subst h2
      have h4 := Int64.lt_iff_toInt_lt.mp h
      omega
    · rw [if_neg h2]
      refine ⟨fun _ => ?_, fun _ => by decide⟩
      rw [Int64.lt_iff_toInt_lt]
      have h3 : ¬ y.toInt < x.toInt := fun z => h1 (Int64.lt_iff_toInt_lt.mpr z)
      have h4 : ¬ x.toInt = y.toInt := fun z => h2 (Int64.toInt_inj.mp z)
      omega
theorem Ex_if_eqL {x y : Int64} {off : Int} (tgt : Nat) (hd : decode μ.2.1 pc = .ok (.ifCond .eq off, 3)) (ht : (pc : Int) + off = (tgt : Int)) (kt : x = y → Ex S μ tgt ls st h Q) (kf : ¬ x = y → Ex S μ (pc + 3) ls st h Q) : Ex S μ pc ls (.int (lg_cmp x y) :: st) h Q :=
  Ex_if_eq tgt hd ht (fun q => kt ((lgc_eq x y).mp q)) (fun q => kf (fun z => q ((lgc_eq x y).mpr z)))
theorem Ex_if_neL {x y : Int64} {off : Int} (tgt : Nat) (hd : decode μ.2.1 pc = .ok (.ifCond .ne off, 3)) (ht : (pc : Int) + off = (tgt : Int)) (kt : ¬ x = y → Ex S μ tgt ls st h Q) (kf : x = y → Ex S μ (pc + 3) ls st h Q) : Ex S μ pc ls (.int (lg_cmp x y) :: st) h Q :=
  Ex_if_ne tgt hd ht (fun q => kt (fun z => q ((lgc_eq x y).mpr z))) (fun q => kf ((lgc_eq x y).mp q))
theorem Ex_if_ltL {x y : Int64} {off : Int} (tgt : Nat) (hd : decode μ.2.1 pc = .ok (.ifCond .lt off, 3)) (ht : (pc : Int) + off = (tgt : Int)) (kt : x < y → Ex S μ tgt ls st h Q) (kf : ¬ x < y → Ex S μ (pc + 3) ls st h Q) : Ex S μ pc ls (.int (lg_cmp x y) :: st) h Q :=
  Ex_if_lt tgt hd ht (fun q => kt ((lgc_lt x y).mp q)) (fun q => kf (fun z => q ((lgc_lt x y).mpr z)))
theorem Ex_if_geL {x y : Int64} {off : Int} (tgt : Nat) (hd : decode μ.2.1 pc = .ok (.ifCond .ge off, 3)) (ht : (pc : Int) + off = (tgt : Int)) (kt : ¬ x < y → Ex S μ tgt ls st h Q) (kf : x < y → Ex S μ (pc + 3) ls st h Q) : Ex S μ pc ls (.int (lg_cmp x y) :: st) h Q :=
  Ex_if_ge tgt hd ht (fun q => kt (fun z => absurd ((lgc_lt x y).mpr z) (Int32.not_lt.mpr q))) (fun q => kf ((lgc_lt x y).mp (Int32.not_le.mp q)))
theorem Ex_if_gtL {x y : Int64} {off : Int} (tgt : Nat) (hd : decode μ.2.1 pc = .ok (.ifCond .gt off, 3)) (ht : (pc : Int) + off = (tgt : Int)) (kt : y < x → Ex S μ tgt ls st h Q) (kf : ¬ y < x → Ex S μ (pc + 3) ls st h Q) : Ex S μ pc ls (.int (lg_cmp x y) :: st) h Q :=
  Ex_if_gt tgt hd ht (fun q => kt ((lgc_gt x y).mp q)) (fun q => kf (fun z => q ((lgc_gt x y).mpr z)))
theorem Ex_if_leL {x y : Int64} {off : Int} (tgt : Nat) (hd : decode μ.2.1 pc = .ok (.ifCond .le off, 3)) (ht : (pc : Int) + off = (tgt : Int)) (kt : ¬ y < x → Ex S μ tgt ls st h Q) (kf : y < x → Ex S μ (pc + 3) ls st h Q) : Ex S μ pc ls (.int (lg_cmp x y) :: st) h Q :=
  Ex_if_le tgt hd ht (fun q => kt (fun z => absurd ((lgc_gt x y).mpr z) (Int32.not_lt.mpr q))) (fun q => kf ((lgc_gt x y).mp (Int32.not_le.mp q)))
end MJW
/-- the byte at a place of a name, as the machine takes it; the letters closed up -/
def nB (name : Int64) (j : Nat) : Int64 := (name.toUInt64 >>> ((nI (8 * j)).toInt64.toUInt64 &&& Int64.toUInt64 63)).toInt64 &&& 255
def plS (name : Int64) : Nat → Int64 → Int64
  | 0, v => v
  | j + 1, v => if nB name j = 0 then plS name j v else if nB name j < 97 ∨ 122 < nB name j then 0 else plS name j ((v <<< ((8 : Int32).toInt64 &&& 63)) ||| nB name j)
theorem sh64 : ∀ j, j < 8 → (((nI (8 * j)).toInt64 &&& 63).toBitVec.smod 64).toNat = 8 * j ∧ (((nI (8 * j)).toInt64.toUInt64 &&& Int64.toUInt64 63).toBitVec % 64).toNat = 8 * j := by decide +kernel
theorem nB_s (name : Int64) {j : Nat} (hj : j < 8) : (name >>> ((nI (8 * j)).toInt64 &&& 63)) &&& 255 = nB name j := by
  unfold nB
  apply Int64.toBitVec_inj.mp
  rw [Int64.toBitVec_and, Int64.toBitVec_and, Int64.toBitVec_shiftRight]
  show (name.toBitVec.sshiftRight (((nI (8 * j)).toInt64 &&& 63).toBitVec.smod 64).toNat) &&& _ = (name.toBitVec >>> (((nI (8 * j)).toInt64.toUInt64 &&& Int64.toUInt64 63).toBitVec % 64).toNat) &&& _
  rw [(sh64 j hj).1, (sh64 j hj).2]
  apply BitVec.eq_of_getLsbD_eq
  intro i hi
  rw [BitVec.getLsbD_and, BitVec.getLsbD_and, BitVec.getLsbD_sshiftRight, BitVec.getLsbD_ushiftRight]
  by_cases h8 : i < 8
  · simp [hi, show 8 * j + i < 64 by omega, Nat.not_le.mpr hi]
  · have : (255 : Int64).toBitVec.getLsbD i = false := by
      show (BitVec.ofNat 64 255).getLsbD i = false
      rw [BitVec.getLsbD_ofNat]
      simp only [Bool.and_eq_false_iff, decide_eq_false_iff_not]
      right
      exact Nat.testBit_lt_two_pow (Nat.lt_of_lt_of_le (show 255 < 2 ^ 8 by decide) (Nat.pow_le_pow_right (by omega) (by omega)))
    rw [this]; simp
theorem rm_plain_L {S : mj_S} {h : mj_H} (name : Int64) : ∀ (j : Nat), j ≤ 8 → ∀ v : Int64, Ex S rm_plain 6 [some (.long (name)), none, some (.long (v)), none, some (.int (J (8 * (j : Int) - 8))), none, none] [] h (Pu (.long (plS name j v)) h) := by
  intro j
  induction j with
  | zero =>
    intro hj v
    refine Ex_iload d_rm_plain_6 rfl ?_
    refine Ex_if_ltZ (8 * ((0 : Nat) : Int) - 8) 65 d_rm_plain_8 rfl rfl (by omega) (fun hc8 => ?_) (fun hc8 => ?_)
    · refine Ex_lload_n d_rm_plain_65 rfl ?_
      refine Ex_lreturn d_rm_plain_66 rfl ?_
      exact ⟨rfl, rfl⟩
    · exfalso; omega
  | succ j ih =>
    intro hj v
    rw [show J (8 * ((j + 1 : Nat) : Int) - 8) = nI (8 * j) from by rw [nIJ]; exact congrArg J (by omega)]
    refine Ex_iload d_rm_plain_6 rfl ?_
    refine Ex_if_ltN (8 * j) 65 d_rm_plain_8 rfl rfl (by omega) (fun hc8 => ?_) (fun hc8 => ?_)
    · exfalso; omega
    · refine Ex_lload_n d_rm_plain_11 rfl ?_
      refine Ex_iload d_rm_plain_12 rfl ?_
      refine Ex_lshr d_rm_plain_14 ?_
      refine Ex_ldc2_w pi_rm_118 d_rm_plain_15 ?_
      refine Ex_land d_rm_plain_18 ?_
      rw [show ((name >>> ((nI (8 * j)).toInt64 &&& 63)) &&& ((255)) : Int64) = nB name j from nB_s name (by omega)]
      refine Ex_lstore [some (.long (name)), none, some (.long (v)), none, some (.int (nI (8 * j))), some (.long (nB name j)), none] d_rm_plain_19 (Nat.le_of_ble_eq_true rfl) rfl ?_
      refine Ex_lload d_rm_plain_21 rfl ?_
      refine Ex_lconst d_rm_plain_23 lc_0 ?_
      refine Ex_lcmp d_rm_plain_24 ?_
      refine Ex_if_neL 31 d_rm_plain_25 rfl (fun hc25 => ?_) (fun hc25 => ?_)
      · refine Ex_lload d_rm_plain_31 rfl ?_
        refine Ex_ldc2_w pi_rm_120 d_rm_plain_33 ?_
        refine Ex_lcmp d_rm_plain_36 ?_
        refine Ex_if_ltL 49 d_rm_plain_37 rfl (fun hc37 => ?_) (fun hc37 => ?_)
        · refine Ex_lconst d_rm_plain_49 lc_0 ?_
          refine Ex_lreturn d_rm_plain_50 rfl ?_
          first | (rw [plS, if_neg (by assumption), if_pos (Or.inl (by assumption))]; exact ⟨rfl, rfl⟩) | (rw [plS, if_neg (by assumption), if_pos (Or.inr (by assumption))]; exact ⟨rfl, rfl⟩)
        · refine Ex_lload d_rm_plain_40 rfl ?_
          refine Ex_ldc2_w pi_rm_122 d_rm_plain_42 ?_
          refine Ex_lcmp d_rm_plain_45 ?_
          refine Ex_if_leL 51 d_rm_plain_46 rfl (fun hc46 => ?_) (fun hc46 => ?_)
          · refine Ex_lload_n d_rm_plain_51 rfl ?_
            refine Ex_bipush d_rm_plain_52 bp_8 ?_
            refine Ex_lshl d_rm_plain_54 ?_
            refine Ex_lload d_rm_plain_55 rfl ?_
            refine Ex_lor d_rm_plain_57 ?_
            refine Ex_lstore_n [some (.long (name)), none, some (.long ((v <<< ((8 : Int32).toInt64 &&& 63)) ||| (nB name j))), none, some (.int (nI (8 * j))), some (.long (nB name j)), none] d_rm_plain_58 (Nat.le_of_ble_eq_true rfl) rfl ?_
            refine Ex_iincZ (((8 * j : Nat) : Int)) (-8) [some (.long (name)), none, some (.long ((v <<< ((8 : Int32).toInt64 &&& 63)) ||| (nB name j))), none, some (.int (J ((((8 * j : Nat) : Int)) + (-8)))), some (.long (nB name j)), none] d_rm_plain_59 rfl (nIJ _) (by decide) rfl ?_
            rw [show ((J ((((8 * j : Nat) : Int)) + (-8))) : Int32) = (J (8 * (j : Int) - 8)) from congrArg J (by omega)]
            refine Ex_goto 6 d_rm_plain_62 rfl ?_
            refine Ex_forget (ls' := [some (.long (name)), none, some (.long ((v <<< ((8 : Int32).toInt64 &&& 63)) ||| (nB name j))), none, some (.int (J (8 * (j : Int) - 8))), none, none]) (sub_s (sub_n (sub_s (sub_n (sub_s (sub_n (sub_n sub_0))))))) ?_
            first | (rw [plS, if_pos (by assumption)]; exact ih (by omega) _) | (rw [plS, if_neg (by assumption), if_neg (fun z => z.elim (by assumption) (by assumption))]; exact ih (by omega) _)
          · refine Ex_lconst d_rm_plain_49 lc_0 ?_
            refine Ex_lreturn d_rm_plain_50 rfl ?_
            first | (rw [plS, if_neg (by assumption), if_pos (Or.inl (by assumption))]; exact ⟨rfl, rfl⟩) | (rw [plS, if_neg (by assumption), if_pos (Or.inr (by assumption))]; exact ⟨rfl, rfl⟩)
      · refine Ex_goto 59 d_rm_plain_28 rfl ?_
        refine Ex_iincZ (((8 * j : Nat) : Int)) (-8) [some (.long (name)), none, some (.long (v)), none, some (.int (J ((((8 * j : Nat) : Int)) + (-8)))), some (.long (nB name j)), none] d_rm_plain_59 rfl (nIJ _) (by decide) rfl ?_
        rw [show ((J ((((8 * j : Nat) : Int)) + (-8))) : Int32) = (J (8 * (j : Int) - 8)) from congrArg J (by omega)]
        refine Ex_goto 6 d_rm_plain_62 rfl ?_
        refine Ex_forget (ls' := [some (.long (name)), none, some (.long (v)), none, some (.int (J (8 * (j : Int) - 8))), none, none]) (sub_s (sub_n (sub_s (sub_n (sub_s (sub_n (sub_n sub_0))))))) ?_
        first | (rw [plS, if_pos (by assumption)]; exact ih (by omega) _) | (rw [plS, if_neg (by assumption), if_neg (fun z => z.elim (by assumption) (by assumption))]; exact ih (by omega) _)
theorem rm_plain_s {S : mj_S} {h : mj_H} (name : Int64) : Cl S rm_plain [.long (name)] h (Pu (.long (plS name 8 0)) h) := by
  show Ex S rm_plain 0 [some (.long (name)), none, none, none, none, none, none] [] h _
  refine Ex_lconst d_rm_plain_0 lc_0 ?_
  refine Ex_lstore_n [some (.long (name)), none, some (.long (0)), none, none, none, none] d_rm_plain_1 (Nat.le_of_ble_eq_true rfl) rfl ?_
  refine Ex_bipush d_rm_plain_2 bp_56 ?_
  refine Ex_istore [some (.long (name)), none, some (.long (0)), none, some (.int (56)), none, none] d_rm_plain_4 (Nat.le_of_ble_eq_true rfl) rfl ?_
  exact rm_plain_L name 8 (by omega) 0
theorem ki_lettersOf_L {S : mj_S} {h : mj_H} (name : Int64) : ∀ (j : Nat), j ≤ 8 → ∀ v : Int64, Ex S ki_lettersOf 6 [some (.long (name)), none, some (.long (v)), none, some (.int (J (8 * (j : Int) - 8))), none, none] [] h (Pu (.long (plS name j v)) h) := by
  intro j
  induction j with
  | zero =>
    intro hj v
    refine Ex_iload d_ki_lettersOf_6 rfl ?_
    refine Ex_if_ltZ (8 * ((0 : Nat) : Int) - 8) 73 d_ki_lettersOf_8 rfl rfl (by omega) (fun hc8 => ?_) (fun hc8 => ?_)
    · refine Ex_lload_n d_ki_lettersOf_73 rfl ?_
      refine Ex_lreturn d_ki_lettersOf_74 rfl ?_
      exact ⟨rfl, rfl⟩
    · exfalso; omega
  | succ j ih =>
    intro hj v
    rw [show J (8 * ((j + 1 : Nat) : Int) - 8) = nI (8 * j) from by rw [nIJ]; exact congrArg J (by omega)]
    refine Ex_iload d_ki_lettersOf_6 rfl ?_
    refine Ex_if_ltN (8 * j) 73 d_ki_lettersOf_8 rfl rfl (by omega) (fun hc8 => ?_) (fun hc8 => ?_)
    · exfalso; omega
    · refine Ex_lload_n d_ki_lettersOf_11 rfl ?_
      refine Ex_iload d_ki_lettersOf_12 rfl ?_
      refine Ex_lushr d_ki_lettersOf_14 ?_
      refine Ex_ldc2_w pi_ki_29 d_ki_lettersOf_15 ?_
      refine Ex_land d_ki_lettersOf_18 ?_
      rw [show (((name.toUInt64 >>> ((nI (8 * j)).toInt64.toUInt64 &&& Int64.toUInt64 63)).toInt64) &&& ((255)) : Int64) = nB name j from rfl]
      refine Ex_lstore [some (.long (name)), none, some (.long (v)), none, some (.int (nI (8 * j))), some (.long (nB name j)), none] d_ki_lettersOf_19 (Nat.le_of_ble_eq_true rfl) rfl ?_
      refine Ex_lload d_ki_lettersOf_21 rfl ?_
      refine Ex_lconst d_ki_lettersOf_23 lc_0 ?_
      refine Ex_lcmp d_ki_lettersOf_24 ?_
      refine Ex_if_eqL 48 d_ki_lettersOf_25 rfl (fun hc25 => ?_) (fun hc25 => ?_)
      · refine Ex_lload d_ki_lettersOf_48 rfl ?_
        refine Ex_lconst d_ki_lettersOf_50 lc_0 ?_
        refine Ex_lcmp d_ki_lettersOf_51 ?_
        refine Ex_if_neL 59 d_ki_lettersOf_52 rfl (fun hc52 => ?_) (fun hc52 => ?_)
        · refine Ex_lload_n d_ki_lettersOf_59 rfl ?_
          refine Ex_bipush d_ki_lettersOf_60 bp_8 ?_
          refine Ex_lshl d_ki_lettersOf_62 ?_
          refine Ex_lload d_ki_lettersOf_63 rfl ?_
          refine Ex_lor d_ki_lettersOf_65 ?_
          refine Ex_lstore_n [some (.long (name)), none, some (.long ((v <<< ((8 : Int32).toInt64 &&& 63)) ||| (nB name j))), none, some (.int (nI (8 * j))), some (.long (nB name j)), none] d_ki_lettersOf_66 (Nat.le_of_ble_eq_true rfl) rfl ?_
          refine Ex_iincZ (((8 * j : Nat) : Int)) (-8) [some (.long (name)), none, some (.long ((v <<< ((8 : Int32).toInt64 &&& 63)) ||| (nB name j))), none, some (.int (J ((((8 * j : Nat) : Int)) + (-8)))), some (.long (nB name j)), none] d_ki_lettersOf_67 rfl (nIJ _) (by decide) rfl ?_
          rw [show ((J ((((8 * j : Nat) : Int)) + (-8))) : Int32) = (J (8 * (j : Int) - 8)) from congrArg J (by omega)]
          refine Ex_goto 6 d_ki_lettersOf_70 rfl ?_
          refine Ex_forget (ls' := [some (.long (name)), none, some (.long ((v <<< ((8 : Int32).toInt64 &&& 63)) ||| (nB name j))), none, some (.int (J (8 * (j : Int) - 8))), none, none]) (sub_s (sub_n (sub_s (sub_n (sub_s (sub_n (sub_n sub_0))))))) ?_
          first | contradiction | (rw [plS, if_pos (by assumption)]; exact ih (by omega) _) | (rw [plS, if_neg (by assumption), if_neg (fun z => z.elim (by assumption) (by assumption))]; exact ih (by omega) _)
        · refine Ex_lload_n d_ki_lettersOf_55 rfl ?_
          refine Ex_goto 66 d_ki_lettersOf_56 rfl ?_
          refine Ex_lstore_n [some (.long (name)), none, some (.long (v)), none, some (.int (nI (8 * j))), some (.long (nB name j)), none] d_ki_lettersOf_66 (Nat.le_of_ble_eq_true rfl) rfl ?_
          refine Ex_iincZ (((8 * j : Nat) : Int)) (-8) [some (.long (name)), none, some (.long (v)), none, some (.int (J ((((8 * j : Nat) : Int)) + (-8)))), some (.long (nB name j)), none] d_ki_lettersOf_67 rfl (nIJ _) (by decide) rfl ?_
          rw [show ((J ((((8 * j : Nat) : Int)) + (-8))) : Int32) = (J (8 * (j : Int) - 8)) from congrArg J (by omega)]
          refine Ex_goto 6 d_ki_lettersOf_70 rfl ?_
          refine Ex_forget (ls' := [some (.long (name)), none, some (.long (v)), none, some (.int (J (8 * (j : Int) - 8))), none, none]) (sub_s (sub_n (sub_s (sub_n (sub_s (sub_n (sub_n sub_0))))))) ?_
          first | contradiction | (rw [plS, if_pos (by assumption)]; exact ih (by omega) _) | (rw [plS, if_neg (by assumption), if_neg (fun z => z.elim (by assumption) (by assumption))]; exact ih (by omega) _)
      · refine Ex_lload d_ki_lettersOf_28 rfl ?_
        refine Ex_ldc2_w pi_ki_31 d_ki_lettersOf_30 ?_
        refine Ex_lcmp d_ki_lettersOf_33 ?_
        refine Ex_if_ltL 46 d_ki_lettersOf_34 rfl (fun hc34 => ?_) (fun hc34 => ?_)
        · refine Ex_lconst d_ki_lettersOf_46 lc_0 ?_
          refine Ex_lreturn d_ki_lettersOf_47 rfl ?_
          first | (rw [plS, if_neg (by assumption), if_pos (Or.inl (by assumption))]; exact ⟨rfl, rfl⟩) | (rw [plS, if_neg (by assumption), if_pos (Or.inr (by assumption))]; exact ⟨rfl, rfl⟩)
        · refine Ex_lload d_ki_lettersOf_37 rfl ?_
          refine Ex_ldc2_w pi_ki_33 d_ki_lettersOf_39 ?_
          refine Ex_lcmp d_ki_lettersOf_42 ?_
          refine Ex_if_leL 48 d_ki_lettersOf_43 rfl (fun hc43 => ?_) (fun hc43 => ?_)
          · refine Ex_lload d_ki_lettersOf_48 rfl ?_
            refine Ex_lconst d_ki_lettersOf_50 lc_0 ?_
            refine Ex_lcmp d_ki_lettersOf_51 ?_
            refine Ex_if_neL 59 d_ki_lettersOf_52 rfl (fun hc52 => ?_) (fun hc52 => ?_)
            · refine Ex_lload_n d_ki_lettersOf_59 rfl ?_
              refine Ex_bipush d_ki_lettersOf_60 bp_8 ?_
              refine Ex_lshl d_ki_lettersOf_62 ?_
              refine Ex_lload d_ki_lettersOf_63 rfl ?_
              refine Ex_lor d_ki_lettersOf_65 ?_
              refine Ex_lstore_n [some (.long (name)), none, some (.long ((v <<< ((8 : Int32).toInt64 &&& 63)) ||| (nB name j))), none, some (.int (nI (8 * j))), some (.long (nB name j)), none] d_ki_lettersOf_66 (Nat.le_of_ble_eq_true rfl) rfl ?_
              refine Ex_iincZ (((8 * j : Nat) : Int)) (-8) [some (.long (name)), none, some (.long ((v <<< ((8 : Int32).toInt64 &&& 63)) ||| (nB name j))), none, some (.int (J ((((8 * j : Nat) : Int)) + (-8)))), some (.long (nB name j)), none] d_ki_lettersOf_67 rfl (nIJ _) (by decide) rfl ?_
              rw [show ((J ((((8 * j : Nat) : Int)) + (-8))) : Int32) = (J (8 * (j : Int) - 8)) from congrArg J (by omega)]
              refine Ex_goto 6 d_ki_lettersOf_70 rfl ?_
              refine Ex_forget (ls' := [some (.long (name)), none, some (.long ((v <<< ((8 : Int32).toInt64 &&& 63)) ||| (nB name j))), none, some (.int (J (8 * (j : Int) - 8))), none, none]) (sub_s (sub_n (sub_s (sub_n (sub_s (sub_n (sub_n sub_0))))))) ?_
              first | contradiction | (rw [plS, if_pos (by assumption)]; exact ih (by omega) _) | (rw [plS, if_neg (by assumption), if_neg (fun z => z.elim (by assumption) (by assumption))]; exact ih (by omega) _)
            · refine Ex_lload_n d_ki_lettersOf_55 rfl ?_
              refine Ex_goto 66 d_ki_lettersOf_56 rfl ?_
              refine Ex_lstore_n [some (.long (name)), none, some (.long (v)), none, some (.int (nI (8 * j))), some (.long (nB name j)), none] d_ki_lettersOf_66 (Nat.le_of_ble_eq_true rfl) rfl ?_
              refine Ex_iincZ (((8 * j : Nat) : Int)) (-8) [some (.long (name)), none, some (.long (v)), none, some (.int (J ((((8 * j : Nat) : Int)) + (-8)))), some (.long (nB name j)), none] d_ki_lettersOf_67 rfl (nIJ _) (by decide) rfl ?_
              rw [show ((J ((((8 * j : Nat) : Int)) + (-8))) : Int32) = (J (8 * (j : Int) - 8)) from congrArg J (by omega)]
              refine Ex_goto 6 d_ki_lettersOf_70 rfl ?_
              refine Ex_forget (ls' := [some (.long (name)), none, some (.long (v)), none, some (.int (J (8 * (j : Int) - 8))), none, none]) (sub_s (sub_n (sub_s (sub_n (sub_s (sub_n (sub_n sub_0))))))) ?_
              first | contradiction | (rw [plS, if_pos (by assumption)]; exact ih (by omega) _) | (rw [plS, if_neg (by assumption), if_neg (fun z => z.elim (by assumption) (by assumption))]; exact ih (by omega) _)
          · refine Ex_lconst d_ki_lettersOf_46 lc_0 ?_
            refine Ex_lreturn d_ki_lettersOf_47 rfl ?_
            first | (rw [plS, if_neg (by assumption), if_pos (Or.inl (by assumption))]; exact ⟨rfl, rfl⟩) | (rw [plS, if_neg (by assumption), if_pos (Or.inr (by assumption))]; exact ⟨rfl, rfl⟩)
theorem ki_lettersOf_s {S : mj_S} {h : mj_H} (name : Int64) : Cl S ki_lettersOf [.long (name)] h (Pu (.long (plS name 8 0)) h) := by
  show Ex S ki_lettersOf 0 [some (.long (name)), none, none, none, none, none, none] [] h _
  refine Ex_lconst d_ki_lettersOf_0 lc_0 ?_
  refine Ex_lstore_n [some (.long (name)), none, some (.long (0)), none, none, none, none] d_ki_lettersOf_1 (Nat.le_of_ble_eq_true rfl) rfl ?_
  refine Ex_bipush d_ki_lettersOf_2 bp_56 ?_
  refine Ex_istore [some (.long (name)), none, some (.long (0)), none, some (.int (56)), none, none] d_ki_lettersOf_4 (Nat.le_of_ble_eq_true rfl) rfl ?_
  exact ki_lettersOf_L name 8 (by omega) 0
