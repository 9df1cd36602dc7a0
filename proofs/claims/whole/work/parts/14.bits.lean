/-! Bits of ints; the two codes of a cell. -/
theorem nI_and (a b : Nat) : nI a &&& nI b = nI (a &&& b) := by
  apply Int32.toBitVec_inj.1
  show BitVec.ofNat 32 a &&& BitVec.ofNat 32 b = BitVec.ofNat 32 (a &&& b)
  apply BitVec.eq_of_getLsbD_eq
  intro i hi
  simp [hi]
theorem nI_or (a b : Nat) : nI a ||| nI b = nI (a ||| b) := by
  apply Int32.toBitVec_inj.1
  show BitVec.ofNat 32 a ||| BitVec.ofNat 32 b = BitVec.ofNat 32 (a ||| b)
  apply BitVec.eq_of_getLsbD_eq
  intro i hi
  simp [hi]
theorem nI_mask (a j : Nat) : nI a &&& nI (2 ^ j - 1) = nI (a % 2 ^ j) := by
  rw [nI_and, Nat.and_two_pow_sub_one_eq_mod]
theorem nI_3 (a : Nat) : nI a &&& 3 = nI (a % 4) := nI_mask a 2
theorem nI_7 (a : Nat) : nI a &&& 7 = nI (a % 8) := nI_mask a 3
theorem nI_15 (a : Nat) : nI a &&& 15 = nI (a % 16) := nI_mask a 4
theorem nI_63 (a : Nat) : nI a &&& 63 = nI (a % 64) := nI_mask a 6
theorem nI_255 (a : Nat) : nI a &&& 255 = nI (a % 256) := nI_mask a 8
theorem nI_w16 (a : Nat) : nI a &&& 65535 = nI (a % 65536) := nI_mask a 16
theorem nI_1m (a : Nat) : nI a &&& 1 = nI (a % 2) := nI_mask a 1
theorem sh_l : ∀ n, n < 32 → ((nI n &&& 31).toBitVec.smod 32).toNat = n := by decide +kernel
theorem nI_tb (a : Nat) : (nI a).toBitVec = BitVec.ofNat 32 a := rfl
theorem nI_shl (a : Nat) {j : Nat} (hj : j < 32) : nI a <<< (nI j &&& 31) = nI (a * 2 ^ j) := by
  apply Int32.toBitVec_inj.1
  rw [Int32.toBitVec_shiftLeft]
  show (BitVec.ofNat 32 a) <<< ((nI j &&& 31).toBitVec.smod 32).toNat = BitVec.ofNat 32 (a * 2 ^ j)
  rw [sh_l j hj]
  apply BitVec.eq_of_toNat_eq
  simp [Nat.shiftLeft_eq]
theorem nI_shr {a j : Nat} (ha : a < 2147483648) (hj : j < 32) : nI a >>> (nI j &&& 31) = nI (a / 2 ^ j) := by
  apply Int32.toBitVec_inj.1
  rw [Int32.toBitVec_shiftRight]
  show (BitVec.ofNat 32 a).sshiftRight ((nI j &&& 31).toBitVec.smod 32).toNat = BitVec.ofNat 32 (a / 2 ^ j)
  rw [sh_l j hj]
  have hm : (BitVec.ofNat 32 a).msb = false := by
    rw [BitVec.msb_eq_decide]
    simp
    omega
  rw [BitVec.sshiftRight_eq_of_msb_false hm]
  apply BitVec.eq_of_toNat_eq
  have h2 : a / 2 ^ j ≤ a := Nat.div_le_self _ _
  rw [BitVec.toNat_ushiftRight, BitVec.toNat_ofNat, BitVec.toNat_ofNat, Nat.mod_eq_of_lt (by omega), Nat.mod_eq_of_lt (by omega), Nat.shiftRight_eq_div_pow]
theorem nI_orA {a b j : Nat} (hb : b < 2 ^ j) : nI (a * 2 ^ j) ||| nI b = nI (a * 2 ^ j + b) := by
  rw [nI_or, ← Nat.shiftLeft_eq, ← Nat.shiftLeft_add_eq_or_of_lt hb]
/-- the low 16 bits, and these with their sign -/
def lo16 (x : Int32) : Nat := x.toBitVec.toNat % 65536
def sg (s : Nat) : Int := if s < 32768 then s else (s : Int) - 65536
theorem lo16_lt (x : Int32) : lo16 x < 65536 := Nat.mod_lt _ (by omega)
theorem nI_of_tb (x : Int32) : x = nI x.toBitVec.toNat := by
  apply Int32.toBitVec_inj.1
  rw [nI_tb]
  simp
theorem lo16_mask (x : Int32) : x &&& 65535 = nI (lo16 x) := by
  rw [nI_of_tb x, nI_w16]
  unfold lo16
  rw [← nI_of_tb x]
theorem lo16_nI (a : Nat) : lo16 (nI a) = a % 65536 := by
  unfold lo16
  rw [nI_tb, BitVec.toNat_ofNat]
  omega
theorem nI_mod (a : Nat) : nI a = nI (a % 4294967296) := by
  apply Int32.toBitVec_inj.1
  rw [nI_tb, nI_tb]
  apply BitVec.eq_of_toNat_eq
  simp
theorem J_mod {a b : Int} (h : a % 4294967296 = b % 4294967296) : J a = J b := by
  unfold J
  apply Int32.toInt_inj.mp
  rw [Int32.toInt_ofInt, Int32.toInt_ofInt, show Int32.size = 4294967296 from rfl]
  simp only [Int.bmod_def]
  rw [show ((4294967296 : Nat) : Int) = 4294967296 from rfl, h]
theorem short_eq (x : Int32) : x.toInt16.toInt32 = J (sg (lo16 x)) := by
  have h := lo16_lt x
  apply Int32.toInt_inj.mp
  rw [J_toInt (by unfold sg; split <;> omega) (by unfold sg; split <;> omega)]
  have e : x.toInt16.toInt32.toInt = x.toInt16.toInt := by simp
  rw [e]
  show (x.toBitVec.signExtend 16).toInt = _
  rw [BitVec.signExtend_eq_setWidth_of_le _ (by omega), BitVec.toInt_eq_toNat_cond, BitVec.toNat_setWidth]
  unfold sg lo16
  rw [show (2 : Nat) ^ 16 = 65536 from rfl]
  split <;> split <;> omega
theorem sg_lo (s : Nat) (h : s < 65536) : lo16 (J (sg s)) = s := by
  have e : J (sg s) = nI (if s < 32768 then s else s + 4294901760) := by
    rw [nIJ]
    apply J_mod
    unfold sg
    split <;> omega
  rw [e, lo16_nI]
  split <;> omega
theorem sg_inj {a b : Nat} (ha : a < 65536) (hb : b < 65536) (h : sg a = sg b) : a = b := by
  unfold sg at h
  split at h <;> split at h <;> omega
theorem sg_r (s : Nat) (h : s < 65536) : -32768 ≤ sg s ∧ sg s < 32768 := by
  unfold sg
  split <;> omega
theorem sg_shl (s x : Nat) (hs : s < 65536) (hx : x < 65536) : J (sg s) <<< ((16 : Int32) &&& 31) ||| nI x = nI (s * 65536 + x) := by
  have e : J (sg s) = nI (if s < 32768 then s else s + 4294901760) := by
    rw [nIJ]
    apply J_mod
    unfold sg
    split <;> omega
  have e2 : nI (if s < 32768 then s else s + 4294901760) <<< ((16 : Int32) &&& 31) = nI (s * 2 ^ 16) := by
    show _ <<< (nI 16 &&& 31) = _
    rw [nI_shl _ (by omega), nI_mod, nI_mod (s * 2 ^ 16)]
    refine congrArg nI ?_
    split <;> omega
  rw [e, e2, nI_orA (by omega)]
/-- a cell: nothing, or kind, move, shade; in the reference's code and in the class's -/
abbrev Tl : Type := Option (Nat × Nat × Nat)
def eM (c : Tl) : Int32 := match c with
  | none => 0
  | some (k, m, s) => nI (s * 65536 + (8 * k + m + 1))
def eC (c : Tl) : Int32 := match c with
  | none => -1
  | some (k, m, s) => nI (k * 524288 + (m * 65536 + s))
def okT (n : Nat) (c : Tl) : Prop := match c with
  | none => True
  | some (k, m, s) => k < n ∧ m < 8 ∧ s < 65536
theorem okT_mono {n m : Nat} {c : Tl} (h : okT n c) (hm : n ≤ m) : okT m c := by
  cases c with
  | none => exact h
  | some q => exact ⟨Nat.lt_of_lt_of_le h.1 hm, h.2⟩
theorem nI_inj32 {a b : Nat} (ha : a < 4294967296) (hb : b < 4294967296) (h : nI a = nI b) : a = b := by
  have h2 := congrArg (fun z : Int32 => z.toBitVec.toNat) h
  simp only [nI_tb, BitVec.toNat_ofNat] at h2
  omega
theorem eM_inj {a b : Tl} (ha : okT 40 a) (hb : okT 40 b) : eM a = eM b ↔ a = b := by
  constructor
  · intro h
    match a, b, ha, hb, h with
    | none, none, _, _, _ => rfl
    | none, some (k, m, s), _, hb, h =>
      have := nI_inj32 (a := 0) (b := s * 65536 + (8 * k + m + 1)) (by omega) (by have := hb.1; have := hb.2.1; have := hb.2.2; omega) h
      omega
    | some (k, m, s), none, ha, _, h =>
      have := nI_inj32 (a := s * 65536 + (8 * k + m + 1)) (b := 0) (by have := ha.1; have := ha.2.1; have := ha.2.2; omega) (by omega) h
      omega
    | some (k, m, s), some (k2, m2, s2), ha, hb, h =>
      have a1 := ha.1; have a2 := ha.2.1; have a3 := ha.2.2; have b1 := hb.1; have b2 := hb.2.1; have b3 := hb.2.2
      have := nI_inj32 (a := s * 65536 + (8 * k + m + 1)) (b := s2 * 65536 + (8 * k2 + m2 + 1)) (by omega) (by omega) h
      have e1 : s = s2 := by omega
      have e2 : k = k2 := by omega
      have e3 : m = m2 := by omega
      rw [e1, e2, e3]
  · rintro rfl; rfl
theorem eC_inj {a b : Tl} (ha : okT 40 a) (hb : okT 40 b) : eC a = eC b ↔ a = b := by
  have m1 : (-1 : Int32) = nI 4294967295 := by decide
  constructor
  · intro h
    match a, b, ha, hb, h with
    | none, none, _, _, _ => rfl
    | none, some (k, m, s), _, hb, h =>
      have h : (-1 : Int32) = nI (k * 524288 + (m * 65536 + s)) := h
      rw [m1] at h
      have b1 := hb.1; have b2 := hb.2.1; have b3 := hb.2.2
      have := nI_inj32 (by omega) (by omega) h
      omega
    | some (k, m, s), none, ha, _, h =>
      have h : nI (k * 524288 + (m * 65536 + s)) = (-1 : Int32) := h
      rw [m1] at h
      have b1 := ha.1; have b2 := ha.2.1; have b3 := ha.2.2
      have := nI_inj32 (by omega) (by omega) h
      omega
    | some (k, m, s), some (k2, m2, s2), ha, hb, h =>
      have a1 := ha.1; have a2 := ha.2.1; have a3 := ha.2.2; have b1 := hb.1; have b2 := hb.2.1; have b3 := hb.2.2
      have := nI_inj32 (a := k * 524288 + (m * 65536 + s)) (b := k2 * 524288 + (m2 * 65536 + s2)) (by omega) (by omega) h
      have e1 : k = k2 := by omega
      have e2 : m = m2 := by omega
      have e3 : s = s2 := by omega
      rw [e1, e2, e3]
  · rintro rfl; rfl
