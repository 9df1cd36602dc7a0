/-! Longs as numbers; how many bits, and the lowest. -/
def nL (n : Nat) : Int64 := Int64.ofNat n
theorem nL_add (a b : Nat) : nL a + nL b = nL (a + b) := by simp [nL]
theorem nL_sub {a b : Nat} (h : b ≤ a) : nL a - nL b = nL (a - b) := by
  have := nL_add (a - b) b
  rw [Nat.sub_add_cancel h] at this
  rw [← this]
  simp
theorem nL_bv (a : Nat) : (nL a).toBitVec = BitVec.ofNat 64 a := rfl
theorem nL_and (a b : Nat) : nL a &&& nL b = nL (a &&& b) := by
  apply Int64.toBitVec.inj
  show BitVec.ofNat 64 a &&& BitVec.ofNat 64 b = BitVec.ofNat 64 (a &&& b)
  apply BitVec.eq_of_toNat_eq
  simp [Nat.and_mod_two_pow]
theorem nL_xor (a b : Nat) : nL a ^^^ nL b = nL (a ^^^ b) := by
  apply Int64.toBitVec.inj
  show BitVec.ofNat 64 a ^^^ BitVec.ofNat 64 b = BitVec.ofNat 64 (a ^^^ b)
  apply BitVec.eq_of_toNat_eq
  simp [Nat.xor_mod_two_pow]
theorem nL_or (a b : Nat) : nL a ||| nL b = nL (a ||| b) := by
  apply Int64.toBitVec.inj
  show BitVec.ofNat 64 a ||| BitVec.ofNat 64 b = BitVec.ofNat 64 (a ||| b)
  apply BitVec.eq_of_toNat_eq
  simp [Nat.or_mod_two_pow]
theorem nL_ex (v : Int64) : ∃ c : Nat, c < 18446744073709551616 ∧ v = nL c := ⟨v.toBitVec.toNat, v.toBitVec.isLt, by
  apply Int64.toBitVec.inj
  show v.toBitVec = BitVec.ofNat 64 v.toBitVec.toNat
  simp⟩
theorem nL_inj {a b : Nat} (ha : a < 18446744073709551616) (hb : b < 18446744073709551616) (h : nL a = nL b) : a = b := by
  have h1 : (BitVec.ofNat 64 a).toNat = (BitVec.ofNat 64 b).toNat := congrArg (fun v : Int64 => v.toBitVec.toNat) h
  simp at h1
  omega
theorem and_256 {p r : Nat} (hp : p < 256) (hr : r < 256) (q s : Nat) : (256 * q + p) &&& (256 * s + r) = 256 * (q &&& s) + (p &&& r) := by
  have hpr : p &&& r < 2 ^ 8 := Nat.lt_of_le_of_lt Nat.and_le_left hp
  apply Nat.eq_of_testBit_eq
  intro i
  rw [Nat.testBit_and, show (256 : Nat) = 2 ^ 8 from rfl, Nat.testBit_two_pow_mul_add q hp, Nat.testBit_two_pow_mul_add s hr, Nat.testBit_two_pow_mul_add (q &&& s) hpr]
  by_cases h : i < 8
  · simp [h]
  · simp [h]
def mk8 (c : Nat) : Nat → Nat
  | 0 => 0
  | w + 1 => 256 * mk8 c w + c
def bs1 (w x : Nat) : Nat := x - (x / 2 &&& mk8 85 w)
def bs2 (w x : Nat) : Nat := (x &&& mk8 51 w) + (x / 4 &&& mk8 51 w)
def bs3 (w x : Nat) : Nat := x + x / 16 &&& mk8 15 w
def spr (g : Nat → Nat) : Nat → Nat → Nat
  | 0, _ => 0
  | w + 1, x => 256 * spr g w (x / 256) + g (x % 256)
theorem b1t : ∀ a, a < 256 → ∀ b, b < 2 → (a / 2 + 128 * b) &&& 85 = (a / 2) &&& 85 ∧ (a / 2) &&& 85 ≤ a := by decide +kernel
theorem b2t : ∀ a, a < 256 → ∀ b, b < 4 → (a / 4 + 64 * b) &&& 51 = (a / 4) &&& 51 ∧ (a &&& 51) + ((a / 4) &&& 51) < 256 := by decide +kernel
def c1 (a : Nat) : Nat := a - ((a / 2) &&& 85)
def c2 (a : Nat) : Nat := (a &&& 51) + ((a / 4) &&& 51)
def c3 (a : Nat) : Nat := (a + a / 16) &&& 15
theorem bs1_s (w x : Nat) : bs1 (w + 1) x = 256 * bs1 w (x / 256) + c1 (x % 256) ∧ (x / 256 / 2 &&& mk8 85 w) ≤ x / 256 := by
  have h1 := b1t (x % 256) (Nat.mod_lt _ (by decide)) (x / 256 % 2) (Nat.mod_lt _ (by decide))
  have h2 : x / 2 = 256 * (x / 256 / 2) + (x % 256 / 2 + 128 * (x / 256 % 2)) := by omega
  have h3 : (x / 256 / 2 &&& mk8 85 w) ≤ x / 256 := Nat.le_trans Nat.and_le_left (by omega)
  refine ⟨?_, h3⟩
  unfold bs1 c1
  show x - (x / 2 &&& (256 * mk8 85 w + 85)) = _
  rw [h2, and_256 (by omega) (by decide), h1.1]
  generalize (x / 256 / 2 &&& mk8 85 w) = u at h3
  have h4 := h1.2
  generalize (x % 256 / 2 &&& 85) = v at h4
  omega
theorem c1_lt (a : Nat) (h : a < 256) : c1 a < 256 := by unfold c1; omega
theorem c2_lt (a : Nat) (h : a < 256) : c2 a < 256 := (b2t a h 0 (by decide)).2
theorem bs1_spr : ∀ w x, x < 256 ^ w → bs1 w x = spr c1 w x
  | 0, x, h => by
    have : x = 0 := by omega
    subst this
    rfl
  | w + 1, x, h => by
    rw [(bs1_s w x).1, bs1_spr w (x / 256) (by rw [Nat.pow_succ] at h; omega)]
    rfl
theorem bs2_s (w x : Nat) : bs2 (w + 1) x = 256 * bs2 w (x / 256) + c2 (x % 256) := by
  have h1 := b2t (x % 256) (Nat.mod_lt _ (by decide)) (x / 256 % 4) (Nat.mod_lt _ (by decide))
  have h2 : x / 4 = 256 * (x / 256 / 4) + (x % 256 / 4 + 64 * (x / 256 % 4)) := by omega
  have h3 : x &&& (256 * mk8 51 w + 51) = 256 * (x / 256 &&& mk8 51 w) + (x % 256 &&& 51) := by
    have := and_256 (p := x % 256) (r := 51) (Nat.mod_lt _ (by decide)) (by decide) (x / 256) (mk8 51 w)
    rw [Nat.div_add_mod] at this
    exact this
  unfold bs2 c2
  show (x &&& (256 * mk8 51 w + 51)) + (x / 4 &&& (256 * mk8 51 w + 51)) = _
  rw [h3, h2, and_256 (by omega) (by decide), h1.1]
  omega
theorem bs2_spr : ∀ w x, x < 256 ^ w → bs2 w x = spr c2 w x
  | 0, x, h => by
    have : x = 0 := by omega
    subst this
    rfl
  | w + 1, x, h => by
    rw [bs2_s w x, bs2_spr w (x / 256) (by rw [Nat.pow_succ] at h; omega)]
    rfl
theorem spr_dm {g : Nat → Nat} (hg : ∀ a, a < 256 → g a < 256) (w x : Nat) : spr g (w + 1) x / 256 = spr g w (x / 256) ∧ spr g (w + 1) x % 256 = g (x % 256) := by
  have := hg (x % 256) (Nat.mod_lt _ (by decide))
  show (256 * spr g w (x / 256) + g (x % 256)) / 256 = _ ∧ (256 * spr g w (x / 256) + g (x % 256)) % 256 = _
  omega
theorem spr_lt {g : Nat → Nat} (hg : ∀ a, a < 256 → g a < 256) : ∀ w x, spr g w x < 256 ^ w
  | 0, _ => by show 0 < 1; decide
  | w + 1, x => by
    have h1 := spr_lt hg w (x / 256)
    have h2 := hg (x % 256) (Nat.mod_lt _ (by decide))
    show 256 * spr g w (x / 256) + g (x % 256) < _
    rw [Nat.pow_succ]
    omega
theorem spr_cmp {g k : Nat → Nat} (hg : ∀ a, a < 256 → g a < 256) : ∀ w x, spr k w (spr g w x) = spr (fun a => k (g a)) w x
  | 0, _ => rfl
  | w + 1, x => by
    obtain ⟨h1, h2⟩ := spr_dm hg w x
    show 256 * spr k w (spr g (w + 1) x / 256) + k (spr g (w + 1) x % 256) = 256 * spr (fun a => k (g a)) w (x / 256) + k (g (x % 256))
    rw [h1, h2, spr_cmp hg w (x / 256)]
def c12 (a : Nat) : Nat := c2 (c1 a)
theorem b3t : ∀ a, a < 256 → ∀ b, b ≤ 4 → c12 a + c12 a / 16 + 16 * b < 256 ∧ (c12 a + c12 a / 16 + 16 * b) &&& 15 = c3 (c12 a) ∧ c12 a % 16 ≤ 4 := by decide +kernel
theorem c12_lt (a : Nat) (h : a < 256) : c12 a < 256 := c2_lt _ (c1_lt a h)
theorem c12_16 (w x : Nat) : spr c12 w x % 16 ≤ 4 := by
  match w with
  | 0 => show 0 % 16 ≤ 4; decide
  | w + 1 =>
    have h1 := (b3t (x % 256) (Nat.mod_lt _ (by decide)) 0 (by decide)).2.2
    show (256 * spr c12 w (x / 256) + c12 (x % 256)) % 16 ≤ 4
    omega
theorem bs3_spr : ∀ w x, bs3 w (spr c12 w x) = spr (fun a => c3 (c12 a)) w x
  | 0, _ => by show (0 + 0 / 16) &&& 0 = 0; decide
  | w + 1, x => by
    have h0 := c12_16 w (x / 256)
    have h1 := b3t (x % 256) (Nat.mod_lt _ (by decide)) (spr c12 w (x / 256) % 16) h0
    have ih := bs3_spr w (x / 256)
    unfold bs3 at ih ⊢
    show 256 * spr c12 w (x / 256) + c12 (x % 256) + (256 * spr c12 w (x / 256) + c12 (x % 256)) / 16 &&& (256 * mk8 15 w + 15) = 256 * spr (fun a => c3 (c12 a)) w (x / 256) + c3 (c12 (x % 256))
    rw [show 256 * spr c12 w (x / 256) + c12 (x % 256) + (256 * spr c12 w (x / 256) + c12 (x % 256)) / 16 = 256 * (spr c12 w (x / 256) + spr c12 w (x / 256) / 16) + (c12 (x % 256) + c12 (x % 256) / 16 + 16 * (spr c12 w (x / 256) % 16)) by omega, and_256 h1.1 (by decide), h1.2.1, ih]
def tot (g : Nat → Nat) : Nat → Nat → Nat
  | 0, _ => 0
  | w + 1, x => tot g w (x / 256) + g (x % 256)
def pcB (a : Nat) : Nat := c3 (c12 a)
theorem pcB_le : ∀ a, a < 256 → pcB a ≤ 8 := by decide +kernel
theorem pcB_cn : ∀ a, a < 256 → pcB a = cnB (fun i => a.testBit i) 0 8 := by decide +kernel
theorem cnB_sh {g k : Nat → Bool} : ∀ d t u, (∀ i, i < d → g (t + i) = k (u + i)) → cnB g t d = cnB k u d
  | 0, _, _, _ => rfl
  | d + 1, t, u, h => by
    show (if g t = true then 1 else 0) + cnB g (t + 1) d = (if k u = true then 1 else 0) + cnB k (u + 1) d
    rw [show g t = k u from h 0 (by omega), cnB_sh d (t + 1) (u + 1) (fun i hi => by rw [Nat.add_assoc, Nat.add_assoc, Nat.add_comm 1 i]; exact h (i + 1) (by omega))]
theorem tot_cn : ∀ w x, tot pcB w x = cnB (fun i => x.testBit i) 0 (8 * w)
  | 0, _ => rfl
  | w + 1, x => by
    show tot pcB w (x / 256) + pcB (x % 256) = _
    rw [tot_cn w (x / 256), pcB_cn (x % 256) (Nat.mod_lt _ (by decide)), show 8 * (w + 1) = 8 + 8 * w by omega, cnB_a, Nat.add_comm]
    congr 1
    · refine cnB_sh 8 0 0 (fun i hi => ?_)
      show (x % 2 ^ 8).testBit (0 + i) = x.testBit (0 + i)
      rw [Nat.testBit_mod_two_pow, decide_eq_true (by omega), Bool.true_and]
    · refine cnB_sh (8 * w) 0 (0 + 8) (fun i hi => ?_)
      show (x / 2 ^ 8).testBit (0 + i) = x.testBit (0 + 8 + i)
      rw [Nat.testBit_div_two_pow]
      congr 1
      omega
theorem dvm {k U v : Nat} (hv : v < k) : (k * U + v) / k = U := by
  rw [Nat.mul_add_div (by omega), Nat.div_eq_of_lt hv, Nat.add_zero]
theorem spr8a {p0 p1 p2 p3 p4 p5 p6 p7 : Nat} (h0 : p0 ≤ 8) (h1 : p1 ≤ 8) (h2 : p2 ≤ 8) (h3 : p3 ≤ 8) (h4 : p4 ≤ 8) (h5 : p5 ≤ 8) (h6 : p6 ≤ 8) (h7 : p7 ≤ 8) : 256 * (256 * (256 * (256 * (256 * (256 * (256 * (256 * 0 + p7) + p6) + p5) + p4) + p3) + p2) + p1) + p0 < 650000000000000000 ∧ (256 * (256 * (256 * (256 * (256 * (256 * (256 * (256 * 0 + p7) + p6) + p5) + p4) + p3) + p2) + p1) + p0 + (256 * (256 * (256 * (256 * (256 * (256 * (256 * (256 * 0 + p7) + p6) + p5) + p4) + p3) + p2) + p1) + p0) / 256 + (256 * (256 * (256 * (256 * (256 * (256 * (256 * (256 * 0 + p7) + p6) + p5) + p4) + p3) + p2) + p1) + p0 + (256 * (256 * (256 * (256 * (256 * (256 * (256 * (256 * 0 + p7) + p6) + p5) + p4) + p3) + p2) + p1) + p0) / 256) / 65536 + (256 * (256 * (256 * (256 * (256 * (256 * (256 * (256 * 0 + p7) + p6) + p5) + p4) + p3) + p2) + p1) + p0 + (256 * (256 * (256 * (256 * (256 * (256 * (256 * (256 * 0 + p7) + p6) + p5) + p4) + p3) + p2) + p1) + p0) / 256 + (256 * (256 * (256 * (256 * (256 * (256 * (256 * (256 * 0 + p7) + p6) + p5) + p4) + p3) + p2) + p1) + p0 + (256 * (256 * (256 * (256 * (256 * (256 * (256 * (256 * 0 + p7) + p6) + p5) + p4) + p3) + p2) + p1) + p0) / 256) / 65536) / 4294967296) % 128 = 0 + p7 + p6 + p5 + p4 + p3 + p2 + p1 + p0 := by
  rw [dvm (k := 256) (show p0 < 256 by omega)]
  have e1 : 256 * (256 * (256 * (256 * (256 * (256 * (256 * (256 * 0 + p7) + p6) + p5) + p4) + p3) + p2) + p1) + p0 + (256 * (256 * (256 * (256 * (256 * (256 * (256 * 0 + p7) + p6) + p5) + p4) + p3) + p2) + p1) = 65536 * (1099511627776 * p7 + 4294967296 * (p6 + p7) + 16777216 * (p5 + p6) + 65536 * (p4 + p5) + 256 * (p3 + p4) + (p2 + p3)) + (256 * (p1 + p2) + (p0 + p1)) := by omega
  rw [e1, dvm (k := 65536) (show 256 * (p1 + p2) + (p0 + p1) < 65536 by omega)]
  have e2 : 65536 * (1099511627776 * p7 + 4294967296 * (p6 + p7) + 16777216 * (p5 + p6) + 65536 * (p4 + p5) + 256 * (p3 + p4) + (p2 + p3)) + (256 * (p1 + p2) + (p0 + p1)) + (1099511627776 * p7 + 4294967296 * (p6 + p7) + 16777216 * (p5 + p6) + 65536 * (p4 + p5) + 256 * (p3 + p4) + (p2 + p3)) = 4294967296 * (16777216 * p7 + 65536 * (p6 + p7) + 256 * (p5 + p6 + p7) + (p4 + p5 + p6 + p7)) + (16777216 * (p3 + p4 + p5 + p6) + 65536 * (p2 + p3 + p4 + p5) + 256 * (p1 + p2 + p3 + p4) + (p0 + p1 + p2 + p3)) := by omega
  rw [e2, dvm (k := 4294967296) (show 16777216 * (p3 + p4 + p5 + p6) + 65536 * (p2 + p3 + p4 + p5) + 256 * (p1 + p2 + p3 + p4) + (p0 + p1 + p2 + p3) < 4294967296 by omega)]
  refine ⟨by omega, ?_⟩
  have e3 : 4294967296 * (16777216 * p7 + 65536 * (p6 + p7) + 256 * (p5 + p6 + p7) + (p4 + p5 + p6 + p7)) + (16777216 * (p3 + p4 + p5 + p6) + 65536 * (p2 + p3 + p4 + p5) + 256 * (p1 + p2 + p3 + p4) + (p0 + p1 + p2 + p3)) + (16777216 * p7 + 65536 * (p6 + p7) + 256 * (p5 + p6 + p7) + (p4 + p5 + p6 + p7)) = 128 * (33554432 * (16777216 * p7 + 65536 * (p6 + p7) + 256 * (p5 + p6 + p7) + (p4 + p5 + p6 + p7)) + (131072 * (p3 + p4 + p5 + p6) + 512 * (p2 + p3 + p4 + p5) + 2 * (p1 + p2 + p3 + p4)) + (131072 * p7 + 512 * (p6 + p7) + 2 * (p5 + p6 + p7))) + (0 + p7 + p6 + p5 + p4 + p3 + p2 + p1 + p0) := by omega
  rw [e3, Nat.mul_add_mod, Nat.mod_eq_of_lt (by omega)]
theorem spr8 {g : Nat → Nat} (hg : ∀ a, a < 256 → g a ≤ 8) (x : Nat) : spr g 8 x < 650000000000000000 ∧ (spr g 8 x + spr g 8 x / 256 + (spr g 8 x + spr g 8 x / 256) / 65536 + (spr g 8 x + spr g 8 x / 256 + (spr g 8 x + spr g 8 x / 256) / 65536) / 4294967296) % 128 = tot g 8 x := by
  have h0 := hg (x % 256) (Nat.mod_lt _ (by decide))
  have h1 := hg (x / 256 % 256) (Nat.mod_lt _ (by decide))
  have h2 := hg (x / 256 / 256 % 256) (Nat.mod_lt _ (by decide))
  have h3 := hg (x / 256 / 256 / 256 % 256) (Nat.mod_lt _ (by decide))
  have h4 := hg (x / 256 / 256 / 256 / 256 % 256) (Nat.mod_lt _ (by decide))
  have h5 := hg (x / 256 / 256 / 256 / 256 / 256 % 256) (Nat.mod_lt _ (by decide))
  have h6 := hg (x / 256 / 256 / 256 / 256 / 256 / 256 % 256) (Nat.mod_lt _ (by decide))
  have h7 := hg (x / 256 / 256 / 256 / 256 / 256 / 256 / 256 % 256) (Nat.mod_lt _ (by decide))
  have e1 : spr g 8 x = 256 * (256 * (256 * (256 * (256 * (256 * (256 * (256 * 0 + g (x / 256 / 256 / 256 / 256 / 256 / 256 / 256 % 256)) + g (x / 256 / 256 / 256 / 256 / 256 / 256 % 256)) + g (x / 256 / 256 / 256 / 256 / 256 % 256)) + g (x / 256 / 256 / 256 / 256 % 256)) + g (x / 256 / 256 / 256 % 256)) + g (x / 256 / 256 % 256)) + g (x / 256 % 256)) + g (x % 256) := rfl
  have e2 : tot g 8 x = 0 + g (x / 256 / 256 / 256 / 256 / 256 / 256 / 256 % 256) + g (x / 256 / 256 / 256 / 256 / 256 / 256 % 256) + g (x / 256 / 256 / 256 / 256 / 256 % 256) + g (x / 256 / 256 / 256 / 256 % 256) + g (x / 256 / 256 / 256 % 256) + g (x / 256 / 256 % 256) + g (x / 256 % 256) + g (x % 256) := rfl
  rw [e1, e2]
  generalize g (x / 256 / 256 / 256 / 256 / 256 / 256 / 256 % 256) = p7 at *
  generalize g (x / 256 / 256 / 256 / 256 / 256 / 256 % 256) = p6 at *
  generalize g (x / 256 / 256 / 256 / 256 / 256 % 256) = p5 at *
  generalize g (x / 256 / 256 / 256 / 256 % 256) = p4 at *
  generalize g (x / 256 / 256 / 256 % 256) = p3 at *
  generalize g (x / 256 / 256 % 256) = p2 at *
  generalize g (x / 256 % 256) = p1 at *
  generalize g (x % 256) = p0 at *
  clear e1 e2
  exact spr8a h0 h1 h2 h3 h4 h5 h6 h7
theorem nL_ush {a : Nat} (h : a < 18446744073709551616) {k : Int32} {m : Nat} (hm : m < 64) (hk : (k.toInt64.toUInt64 &&& Int64.toUInt64 63) = UInt64.ofNat m) : ((nL a).toUInt64 >>> (k.toInt64.toUInt64 &&& Int64.toUInt64 63)).toInt64 = nL (a / 2 ^ m) := by
  rw [hk]
  apply Int64.toBitVec.inj
  apply BitVec.eq_of_toNat_eq
  show ((nL a).toUInt64 >>> UInt64.ofNat m).toNat = (BitVec.ofNat 64 (a / 2 ^ m)).toNat
  rw [UInt64.toNat_shiftRight]
  have h1 : (nL a).toUInt64.toNat = a := by
    show (BitVec.ofNat 64 a).toNat = a
    rw [BitVec.toNat_ofNat]
    omega
  have h2 : (UInt64.ofNat m).toNat = m := by
    show (BitVec.ofNat 64 m).toNat = m
    rw [BitVec.toNat_ofNat]
    omega
  rw [h1, h2, BitVec.toNat_ofNat, Nat.shiftRight_eq_div_pow, Nat.mod_eq_of_lt hm]
  have : a / 2 ^ m ≤ a := Nat.div_le_self _ _
  exact (Nat.mod_eq_of_lt (Nat.lt_of_le_of_lt this h)).symm
theorem nL_i32 {a : Nat} : (nL a).toInt32 = nI a := by
  apply Int32.toBitVec.inj
  show (BitVec.ofNat 64 a).signExtend 32 = BitVec.ofNat 32 a
  rw [BitVec.signExtend_eq_setWidth_of_le _ (by decide)]
  apply BitVec.eq_of_toNat_eq
  rw [BitVec.toNat_setWidth, BitVec.toNat_ofNat, BitVec.toNat_ofNat]
  omega
theorem nI_127 (a : Nat) : nI a &&& 127 = nI (a % 128) := by
  apply Int32.toBitVec.inj
  show BitVec.ofNat 32 a &&& BitVec.ofNat 32 127 = BitVec.ofNat 32 (a % 128)
  apply BitVec.eq_of_toNat_eq
  rw [BitVec.toNat_and, BitVec.toNat_ofNat, BitVec.toNat_ofNat, BitVec.toNat_ofNat]
  rw [show (127 % 2 ^ 32 : Nat) = 2 ^ 7 - 1 from rfl, Nat.and_two_pow_sub_one_eq_mod]
  omega
theorem bc64 {x : Nat} (hx : x < 18446744073709551616) : bs3 8 (bs2 8 (bs1 8 x)) = spr pcB 8 x ∧ bs1 8 x < 18446744073709551616 ∧ bs2 8 (bs1 8 x) < 18446744073709551616 := by
  have h1 := bs1_spr 8 x (by show x < 18446744073709551616; exact hx)
  have h2 : spr c1 8 x < 18446744073709551616 := spr_lt c1_lt 8 x
  have h3 := bs2_spr 8 (spr c1 8 x) h2
  have h4 := spr_cmp (k := c2) c1_lt 8 x
  have h5 := bs3_spr 8 x
  have h6 : spr c12 8 x < 18446744073709551616 := spr_lt c12_lt 8 x
  rw [h1, h3, h4]
  exact ⟨h5, h2, h6⟩
theorem jd_bcL_s {S : mj_S} {h : mj_H} {x : Nat} (hx : x < 18446744073709551616) : Cl S jd_bcL [.long (nL x)] h (Pu (.int (nI (cnB (fun i => x.testBit i) 0 64))) h) := by
  show Ex S jd_bcL 0 [some (.long (nL x)), none] [] h _
  have hb := bc64 hx
  have hy := spr8 pcB_le x
  refine Ex_lload_n d_jd_bcL_0 rfl ?_
  refine Ex_lload_n d_jd_bcL_1 rfl ?_
  refine Ex_iconst d_jd_bcL_2 ic_1 ?_
  refine Ex_lushr d_jd_bcL_3 ?_
  rw [show (((nL x).toUInt64 >>> ((1 : Int32).toInt64.toUInt64 &&& Int64.toUInt64 63)).toInt64 : Int64) = nL (x / 2 ^ 1) from (nL_ush hx (by decide) (by decide))]
  refine Ex_ldc2_w pi_jdLong_314 d_jd_bcL_4 ?_
  refine Ex_land d_jd_bcL_7 ?_
  rw [show ((nL (x / 2 ^ 1)) &&& ((6148914691236517205)) : Int64) = nL (x / 2 &&& mk8 85 8) from (by rw [show (6148914691236517205 : Int64) = nL (mk8 85 8) by decide, nL_and])]
  refine Ex_lsub d_jd_bcL_8 ?_
  rw [show ((nL x) - (nL (x / 2 &&& mk8 85 8)) : Int64) = nL (bs1 8 x) from (nL_sub (Nat.le_trans Nat.and_le_left (Nat.div_le_self _ _)))]
  refine Ex_lstore_n [some (.long (nL (bs1 8 x))), none] d_jd_bcL_9 (Nat.le_of_ble_eq_true rfl) rfl ?_
  refine Ex_lload_n d_jd_bcL_10 rfl ?_
  refine Ex_ldc2_w pi_jdLong_316 d_jd_bcL_11 ?_
  refine Ex_land d_jd_bcL_14 ?_
  rw [show ((nL (bs1 8 x)) &&& ((3689348814741910323)) : Int64) = nL (bs1 8 x &&& mk8 51 8) from (by rw [show (3689348814741910323 : Int64) = nL (mk8 51 8) by decide, nL_and])]
  refine Ex_lload_n d_jd_bcL_15 rfl ?_
  refine Ex_iconst d_jd_bcL_16 ic_2 ?_
  refine Ex_lushr d_jd_bcL_17 ?_
  rw [show (((nL (bs1 8 x)).toUInt64 >>> ((2 : Int32).toInt64.toUInt64 &&& Int64.toUInt64 63)).toInt64 : Int64) = nL (bs1 8 x / 2 ^ 2) from (nL_ush hb.2.1 (by decide) (by decide))]
  refine Ex_ldc2_w pi_jdLong_316 d_jd_bcL_18 ?_
  refine Ex_land d_jd_bcL_21 ?_
  rw [show ((nL (bs1 8 x / 2 ^ 2)) &&& ((3689348814741910323)) : Int64) = nL (bs1 8 x / 4 &&& mk8 51 8) from (by rw [show (3689348814741910323 : Int64) = nL (mk8 51 8) by decide, nL_and])]
  refine Ex_ladd d_jd_bcL_22 ?_
  rw [show ((nL (bs1 8 x &&& mk8 51 8)) + (nL (bs1 8 x / 4 &&& mk8 51 8)) : Int64) = nL (bs2 8 (bs1 8 x)) from (nL_add _ _)]
  refine Ex_lstore_n [some (.long (nL (bs2 8 (bs1 8 x)))), none] d_jd_bcL_23 (Nat.le_of_ble_eq_true rfl) rfl ?_
  refine Ex_lload_n d_jd_bcL_24 rfl ?_
  refine Ex_lload_n d_jd_bcL_25 rfl ?_
  refine Ex_iconst d_jd_bcL_26 ic_4 ?_
  refine Ex_lushr d_jd_bcL_27 ?_
  rw [show (((nL (bs2 8 (bs1 8 x))).toUInt64 >>> ((4 : Int32).toInt64.toUInt64 &&& Int64.toUInt64 63)).toInt64 : Int64) = nL (bs2 8 (bs1 8 x) / 2 ^ 4) from (nL_ush hb.2.2 (by decide) (by decide))]
  refine Ex_ladd d_jd_bcL_28 ?_
  rw [show ((nL (bs2 8 (bs1 8 x))) + (nL (bs2 8 (bs1 8 x) / 2 ^ 4)) : Int64) = nL (bs2 8 (bs1 8 x) + bs2 8 (bs1 8 x) / 16) from (nL_add _ _)]
  refine Ex_ldc2_w pi_jdLong_318 d_jd_bcL_29 ?_
  refine Ex_land d_jd_bcL_32 ?_
  rw [show ((nL (bs2 8 (bs1 8 x) + bs2 8 (bs1 8 x) / 16)) &&& ((1085102592571150095)) : Int64) = nL (spr pcB 8 x) from (by rw [show (1085102592571150095 : Int64) = nL (mk8 15 8) by decide, nL_and, ← hb.1]; rfl)]
  refine Ex_lstore_n [some (.long (nL (spr pcB 8 x))), none] d_jd_bcL_33 (Nat.le_of_ble_eq_true rfl) rfl ?_
  refine Ex_lload_n d_jd_bcL_34 rfl ?_
  refine Ex_lload_n d_jd_bcL_35 rfl ?_
  refine Ex_bipush d_jd_bcL_36 bp_8 ?_
  refine Ex_lushr d_jd_bcL_38 ?_
  rw [show (((nL (spr pcB 8 x)).toUInt64 >>> ((8 : Int32).toInt64.toUInt64 &&& Int64.toUInt64 63)).toInt64 : Int64) = nL (spr pcB 8 x / 2 ^ 8) from (nL_ush (by omega) (by decide) (by decide))]
  refine Ex_ladd d_jd_bcL_39 ?_
  rw [show ((nL (spr pcB 8 x)) + (nL (spr pcB 8 x / 2 ^ 8)) : Int64) = nL (spr pcB 8 x + spr pcB 8 x / 256) from (nL_add _ _)]
  refine Ex_lstore_n [some (.long (nL (spr pcB 8 x + spr pcB 8 x / 256))), none] d_jd_bcL_40 (Nat.le_of_ble_eq_true rfl) rfl ?_
  refine Ex_lload_n d_jd_bcL_41 rfl ?_
  refine Ex_lload_n d_jd_bcL_42 rfl ?_
  refine Ex_bipush d_jd_bcL_43 bp_16 ?_
  refine Ex_lushr d_jd_bcL_45 ?_
  rw [show (((nL (spr pcB 8 x + spr pcB 8 x / 256)).toUInt64 >>> ((16 : Int32).toInt64.toUInt64 &&& Int64.toUInt64 63)).toInt64 : Int64) = nL ((spr pcB 8 x + spr pcB 8 x / 256) / 2 ^ 16) from (nL_ush (by omega) (by decide) (by decide))]
  refine Ex_ladd d_jd_bcL_46 ?_
  rw [show ((nL (spr pcB 8 x + spr pcB 8 x / 256)) + (nL ((spr pcB 8 x + spr pcB 8 x / 256) / 2 ^ 16)) : Int64) = nL (spr pcB 8 x + spr pcB 8 x / 256 + (spr pcB 8 x + spr pcB 8 x / 256) / 65536) from (nL_add _ _)]
  refine Ex_lstore_n [some (.long (nL (spr pcB 8 x + spr pcB 8 x / 256 + (spr pcB 8 x + spr pcB 8 x / 256) / 65536))), none] d_jd_bcL_47 (Nat.le_of_ble_eq_true rfl) rfl ?_
  refine Ex_lload_n d_jd_bcL_48 rfl ?_
  refine Ex_lload_n d_jd_bcL_49 rfl ?_
  refine Ex_bipush d_jd_bcL_50 bp_32 ?_
  refine Ex_lushr d_jd_bcL_52 ?_
  rw [show (((nL (spr pcB 8 x + spr pcB 8 x / 256 + (spr pcB 8 x + spr pcB 8 x / 256) / 65536)).toUInt64 >>> ((32 : Int32).toInt64.toUInt64 &&& Int64.toUInt64 63)).toInt64 : Int64) = nL ((spr pcB 8 x + spr pcB 8 x / 256 + (spr pcB 8 x + spr pcB 8 x / 256) / 65536) / 2 ^ 32) from (nL_ush (by omega) (by decide) (by decide))]
  refine Ex_ladd d_jd_bcL_53 ?_
  rw [show ((nL (spr pcB 8 x + spr pcB 8 x / 256 + (spr pcB 8 x + spr pcB 8 x / 256) / 65536)) + (nL ((spr pcB 8 x + spr pcB 8 x / 256 + (spr pcB 8 x + spr pcB 8 x / 256) / 65536) / 2 ^ 32)) : Int64) = nL (spr pcB 8 x + spr pcB 8 x / 256 + (spr pcB 8 x + spr pcB 8 x / 256) / 65536 + (spr pcB 8 x + spr pcB 8 x / 256 + (spr pcB 8 x + spr pcB 8 x / 256) / 65536) / 4294967296) from (nL_add _ _)]
  refine Ex_lstore_n [some (.long (nL (spr pcB 8 x + spr pcB 8 x / 256 + (spr pcB 8 x + spr pcB 8 x / 256) / 65536 + (spr pcB 8 x + spr pcB 8 x / 256 + (spr pcB 8 x + spr pcB 8 x / 256) / 65536) / 4294967296))), none] d_jd_bcL_54 (Nat.le_of_ble_eq_true rfl) rfl ?_
  refine Ex_lload_n d_jd_bcL_55 rfl ?_
  refine Ex_l2i d_jd_bcL_56 ?_
  refine Ex_bipush d_jd_bcL_57 bp_127 ?_
  refine Ex_iand d_jd_bcL_59 ?_
  rw [show ((((nL (spr pcB 8 x + spr pcB 8 x / 256 + (spr pcB 8 x + spr pcB 8 x / 256) / 65536 + (spr pcB 8 x + spr pcB 8 x / 256 + (spr pcB 8 x + spr pcB 8 x / 256) / 65536) / 4294967296)).toInt32) &&& (127 : Int32)) : Int32) = (nI (cnB (fun i => x.testBit i) 0 64)) from (by rw [nL_i32, nI_127, hy.2, tot_cn])]
  refine Ex_ireturn d_jd_bcL_60 rfl ?_
  exact ⟨rfl, rfl⟩
