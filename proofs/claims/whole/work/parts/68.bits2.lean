/-! Longs as numbers; how many bits, and the lowest. -/
def nL (n : Nat) : Int64 := Int64.ofNat n
theorem nL_add (a b : Nat) : nL a + nL b = nL (a + b) := by simp [nL]
theorem nL_sub {a b : Nat} (h : b ≤ a) : nL a - nL b = nL (a - b) := by
  have := nL_add (a - b) b
  rw [Nat.sub_add_cancel h] at this
  rw [← this]
  simp
theorem nL_bv (a : Nat) : (nL a).toBitVec = BitVec.ofNat 64 a := rfl
theorem nL_and (a b : Nat) : nL a &&& nL b = nL (a &&& b) := by
  apply Int64.toBitVec.inj
  show BitVec.ofNat 64 a &&& BitVec.ofNat 64 b = BitVec.ofNat 64 (a &&& b)
  apply BitVec.eq_of_toNat_eq
  simp [Nat.and_mod_two_pow]
theorem nL_xor (a b : Nat) : nL a ^^^ nL b = nL (a ^^^ b) := by
  apply Int64.toBitVec.inj
  show BitVec.ofNat 64 a ^^^ BitVec.ofNat 64 b = BitVec.ofNat 64 (a ^^^ b)
  apply BitVec.eq_of_toNat_eq
  simp [Nat.xor_mod_two_pow]
theorem nL_or (a b : Nat) : nL a ||| nL b = nL (a ||| b) := by
  apply Int64.toBitVec.inj
  show BitVec.ofNat 64 a ||| BitVec.ofNat 64 b = BitVec.ofNat 64 (a ||| b)
  apply BitVec.eq_of_toNat_eq
  simp [Nat.or_mod_two_pow]
theorem nL_ex (v : Int64) : ∃ c : Nat, c < 18446744073709551616 ∧ v = nL c := ⟨v.toBitVec.toNat, v.toBitVec.isLt, by
  apply Int64.toBitVec.inj
  show v.toBitVec = BitVec.ofNat 64 v.toBitVec.toNat
  simp⟩
theorem nL_inj {a b : Nat} (ha : a < 18446744073709551616) (hb : b < 18446744073709551616) (h : nL a = nL b) : a = b := by
  have h1 : (BitVec.ofNat 64 a).toNat = (BitVec.ofNat 64 b).toNat := congrArg (fun v : Int64 => v.toBitVec.toNat) h
  simp at h1
  omega
theorem and_256 {p r : Nat} (hp : p < 256) (hr : r < 256) (q s : Nat) : (256 * q + p) &&& (256 * s + r) = 256 * (q &&& s) + (p &&& r) := by
  have hpr : p &&& r < 2 ^ 8 := Nat.lt_of_le_of_lt Nat.and_le_left hp
  apply Nat.eq_of_testBit_eq
  intro i
  rw [Nat.testBit_and, show (256 : Nat) = 2 ^ 8 from rfl, Nat.testBit_two_pow_mul_add q hp, Nat.testBit_two_pow_mul_add s hr, Nat.testBit_two_pow_mul_add (q &&& s) hpr]
  by_cases h : i < 8
  · simp [h]
  · simp [h]
def mk8 (c : Nat) : Nat → Nat
  | 0 => 0
  | w + 1 => 256 * mk8 c w + c
def bs1 (w x : Nat) : Nat := x - (x / 2 &&& mk8 85 w)
def bs2 (w x : Nat) : Nat := (x &&& mk8 51 w) + (x / 4 &&& mk8 51 w)
def bs3 (w x : Nat) : Nat := x + x / 16 &&& mk8 15 w
def spr (g : Nat → Nat) : Nat → Nat → Nat
  | 0, _ => 0
  | w + 1, x => 256 * spr g w (x / 256) + g (x % 256)
theorem b1t : ∀ a, a < 256 → ∀ b, b < 2 → (a / 2 + 128 * b) &&& 85 = (a / 2) &&& 85 ∧ (a / 2) &&& 85 ≤ a := by decide +kernel
theorem b2t : ∀ a, a < 256 → ∀ b, b < 4 → (a / 4 + 64 * b) &&& 51 = (a / 4) &&& 51 ∧ (a &&& 51) + ((a / 4) &&& 51) < 256 := by decide +kernel
def c1 (a : Nat) : Nat := a - ((a / 2) &&& 85)
def c2 (a : Nat) : Nat := (a &&& 51) + ((a / 4) &&& 51)
def c3 (a : Nat) : Nat := (a + a / 16) &&& 15
theorem bs1_s (w x : Nat) : bs1 (w + 1) x = 256 * bs1 w (x / 256) + c1 (x % 256) ∧ (x / 256 / 2 &&& mk8 85 w) ≤ x / 256 := by
  have h1 := b1t (x % 256) (Nat.mod_lt _ (by decide)) (x / 256 % 2) (Nat.mod_lt _ (by decide))
  have h2 : x / 2 = 256 * (x / 256 / 2) + (x % 256 / 2 + 128 * (x / 256 % 2)) := by omega
  have h3 : (x / 256 / 2 &&& mk8 85 w) ≤ x / 256 := Nat.le_trans Nat.and_le_left (by omega)
  refine ⟨?_, h3⟩
  unfold bs1 c1
  show x - (x / 2 &&& (256 * mk8 85 w + 85)) = _
  rw [h2, and_256 (by omega) (by decide), h1.1]
  generalize (x / 256 / 2 &&& mk8 85 w) = u at h3
  have h4 := h1.2
  generalize (x % 256 / 2 &&& 85) = v at h4
  omega
theorem c1_lt (a : Nat) (h : a < 256) : c1 a < 256 := by unfold c1; omega
theorem c2_lt (a : Nat) (h : a < 256) : c2 a < 256 := (b2t a h 0 (by decide)).2
theorem bs1_spr : ∀ w x, x < 256 ^ w → bs1 w x = spr c1 w x
  | 0, x, h => by
    have : x = 0 := by omega
    subst this
    rfl
  | w + 1, x, h => by
    rw [(bs1_s w x).1, bs1_spr w (x / 256) (by rw [Nat.pow_succ] at h; omega)]
    rfl
theorem bs2_s (w x : Nat) : bs2 (w + 1) x = 256 * bs2 w (x / 256) + c2 (x % 256) := by
  have h1 := b2t (x % 256) (Nat.mod_lt _ (by decide)) (x / 256 % 4) (Nat.mod_lt _ (by decide))
  have h2 : x / 4 = 256 * (x / 256 / 4) + (x % 256 / 4 + 64 * (x / 256 % 4)) := by omega
  have h3 : x &&& (256 * mk8 51 w + 51) = 256 * (x / 256 &&& mk8 51 w) + (x % 256 &&& 51) := by
    have := and_256 (p := x % 256) (r := 51) (Nat.mod_lt _ (by decide)) (by decide) (x / 256) (mk8 51 w)
    rw [Nat.div_add_mod] at this
    exact this
  unfold bs2 c2
  show (x &&& (256 * mk8 51 w + 51)) + (x / 4 &&& (256 * mk8 51 w + 51)) = _
  rw [h3, h2, and_256 (by omega) (by decide), h1.1]
  omega
theorem bs2_spr : ∀ w x, x < 256 ^ w → bs2 w x = spr c2 w x
  | 0, x, h => by
    have : x = 0 := by omega
    subst this
    rfl
  | w + 1, x, h => by
    rw [bs2_s w x, bs2_spr w (x / 256) (by rw [Nat.pow_succ] at h; omega)]
    rfl
theorem spr_dm {g : Nat → Nat} (hg : ∀ a, a < 256 → g a < 256) (w x : Nat) : spr g (w + 1) x / 256 = spr g w (x / 256) ∧ spr g (w + 1) x % 256 = g (x % 256) := by
  have := hg (x % 256) (Nat.mod_lt _ (by decide))
  show (256 * spr g w (x / 256) + g (x % 256)) / 256 = _ ∧ (256 * spr g w (x / 256) + g (x % 256)) % 256 = _
  omega
theorem spr_lt {g : Nat → Nat} (hg : ∀ a, a < 256 → g a < 256) : ∀ w x, spr g w x < 256 ^ w
  | 0, _ => by show 0 < 1; decide
  | w + 1, x => by
    have h1 := spr_lt hg w (x / 256)
    have h2 := hg (x % 256) (Nat.mod_lt _ (by decide))
    show 256 * spr g w (x / 256) + g (x % 256) < _
    rw [Nat.pow_succ]
    omega
theorem spr_cmp {g k : Nat → Nat} (hg : ∀ a, a < 256 → g a < 256) : ∀ w x, spr k w (spr g w x) = spr (fun a => k (g a)) w x
  | 0, _ => rfl
  | w + 1, x => by
    obtain ⟨h1, h2⟩ := spr_dm hg w x
    show 256 * spr k w (spr g (w + 1) x / 256) + k (spr g (w + 1) x % 256) = 256 * spr (fun a => k (g a)) w (x / 256) + k (g (x % 256))
    rw [h1, h2, spr_cmp hg w (x / 256)]
def c12 (a : Nat) : Nat := c2 (c1 a)
theorem b3t : ∀ a, a < 256 → ∀ b, b ≤ 4 → c12 a + c12 a / 16 + 16 * b < 256 ∧ (c12 a + c12 a / 16 + 16 * b) &&& 15 = c3 (c12 a) ∧ c12 a % 16 ≤ 4 := by decide +kernel
theorem c12_lt (a : Nat) (h : a < 256) : c12 a < 256 := c2_lt _ (c1_lt a h)
theorem c12_16 (w x : Nat) : spr c12 w x % 16 ≤ 4 := by
  match w with
  | 0 => show 0 % 16 ≤ 4; decide
  | w + 1 =>
    have h1 := (b3t (x % 256) (Nat.mod_lt _ (by decide)) 0 (by decide)).2.2
    show (256 * spr c12 w (x / 256) + c12 (x % 256)) % 16 ≤ 4
    omega
theorem bs3_spr : ∀ w x, bs3 w (spr c12 w x) = spr (fun a => c3 (c12 a)) w x
  | 0, _ => by show (0 + 0 / 16) &&& 0 = 0; decide
  | w + 1, x => by
    have h0 := c12_16 w (x / 256)
    have h1 := b3t (x % 256) (Nat.mod_lt _ (by decide)) (spr c12 w (x / 256) % 16) h0
    have ih := bs3_spr w (x / 256)
    unfold bs3 at ih ⊢
    show 256 * spr c12 w (x / 256) + c12 (x % 256) + (256 * spr c12 w (x / 256) + c12 (x % 256)) / 16 &&& (256 * mk8 15 w + 15) = 256 * spr (fun a => c3 (c12 a)) w (x / 256) + c3 (c12 (x % 256))
    rw [show 256 * spr c12 w (x / 256) + c12 (x % 256) + (256 * spr c12 w (x / 256) + c12 (x % 256)) / 16 = 256 * (spr c12 w (x / 256) + spr c12 w (x / 256) / 16) + (c12 (x % 256) + c12 (x % 256) / 16 + 16 * (spr c12 w (x / 256) % 16)) by omega, and_256 h1.1 (by decide), h1.2.1, ih]
def tot (g : Nat → Nat) : Nat → Nat → Nat
  | 0, _ => 0
  | w + 1, x => tot g w (x / 256) + g (x % 256)
def pcB (a : Nat) : Nat := c3 (c12 a)
theorem pcB_le : ∀ a, a < 256 → pcB a ≤ 8 := by decide +kernel
theorem pcB_cn : ∀ a, a < 256 → pcB a = cnB (fun i => a.testBit i) 0 8 := by decide +kernel
theorem cnB_sh {g k : Nat → Bool} : ∀ d t u, (∀ i, i < d → g (t + i) = k (u + i)) → cnB g t d = cnB k u d
  | 0, _, _, _ => rfl
  | d + 1, t, u, h => by
    show (if g t = true then 1 else 0) + cnB g (t + 1) d = (if k u = true then 1 else 0) + cnB k (u + 1) d
    rw [show g t = k u from h 0 (by omega), cnB_sh d (t + 1) (u + 1) (fun i hi => by rw [Nat.add_assoc, Nat.add_assoc, Nat.add_comm 1 i]; exact h (i + 1) (by omega))]
theorem tot_cn : ∀ w x, tot pcB w x = cnB (fun i => x.testBit i) 0 (8 * w)
  | 0, _ => rfl
  | w + 1, x => by
    show tot pcB w (x / 256) + pcB (x % 256) = _
    rw [tot_cn w (x / 256), pcB_cn (x % 256) (Nat.mod_lt _ (by decide)), show 8 * (w + 1) = 8 + 8 * w by omega, cnB_a, Nat.add_comm]
    congr 1
    · refine cnB_sh 8 0 0 (fun i hi => ?_)
      show (x % 2 ^ 8).testBit (0 + i) = x.testBit (0 + i)
      rw [Nat.testBit_mod_two_pow, decide_eq_true (by omega), Bool.true_and]
    · refine cnB_sh (8 * w) 0 (0 + 8) (fun i hi => ?_)
      show (x / 2 ^ 8).testBit (0 + i) = x.testBit (0 + 8 + i)
      rw [Nat.testBit_div_two_pow]
      congr 1
      omega
theorem dvm {k U v : Nat} (hv : v < k) : (k * U + v) / k = U := by
  rw [Nat.mul_add_div (by omega), Nat.div_eq_of_lt hv, Nat.add_zero]
theorem spr8a {p0 p1 p2 p3 p4 p5 p6 p7 : Nat} (h0 : p0 ≤ 8) (h1 : p1 ≤ 8) (h2 : p2 ≤ 8) (h3 : p3 ≤ 8) (h4 : p4 ≤ 8) (h5 : p5 ≤ 8) (h6 : p6 ≤ 8) (h7 : p7 ≤ 8) : 256 * (256 * (256 * (256 * (256 * (256 * (256 * (256 * 0 + p7) + p6) + p5) + p4) + p3) + p2) + p1) + p0 < 650000000000000000 ∧ (256 * (256 * (256 * (256 * (256 * (256 * (256 * (256 * 0 + p7) + p6) + p5) + p4) + p3) + p2) + p1) + p0 + (256 * (256 * (256 * (256 * (256 * (256 * (256 * (256 * 0 + p7) + p6) + p5) + p4) + p3) + p2) + p1) + p0) / 256 + (256 * (256 * (256 * (256 * (256 * (256 * (256 * (256 * 0 + p7) + p6) + p5) + p4) + p3) + p2) + p1) + p0 + (256 * (256 * (256 * (256 * (256 * (256 * (256 * (256 * 0 + p7) + p6) + p5) + p4) + p3) + p2) + p1) + p0) / 256) / 65536 + (256 * (256 * (256 * (256 * (256 * (256 * (256 * (256 * 0 + p7) + p6) + p5) + p4) + p3) + p2) + p1) + p0 + (256 * (256 * (256 * (256 * (256 * (256 * (256 * (256 * 0 + p7) + p6) + p5) + p4) + p3) + p2) + p1) + p0) / 256 + (256 * (256 * (256 * (256 * (256 * (256 * (256 * (256 * 0 + p7) + p6) + p5) + p4) + p3) + p2) + p1) + p0 + (256 * (256 * (256 * (256 * (256 * (256 * (256 * (256 * 0 + p7) + p6) + p5) + p4) + p3) + p2) + p1) + p0) / 256) / 65536) / 4294967296) % 128 = 0 + p7 + p6 + p5 + p4 + p3 + p2 + p1 + p0 := by
  rw [dvm (k := 256) (show p0 < 256 by omega)]
  have e1 : 256 * (256 * (256 * (256 * (256 * (256 * (256 * (256 * 0 + p7) + p6) + p5) + p4) + p3) + p2) + p1) + p0 + (256 * (256 * (256 * (256 * (256 * (256 * (256 * 0 + p7) + p6) + p5) + p4) + p3) + p2) + p1) = 65536 * (1099511627776 * p7 + 4294967296 * (p6 + p7) + 16777216 * (p5 + p6) + 65536 * (p4 + p5) + 256 * (p3 + p4) + (p2 + p3)) + (256 * (p1 + p2) + (p0 + p1)) := by omega
  rw [e1, dvm (k := 65536) (show 256 * (p1 + p2) + (p0 + p1) < 65536 by omega)]
  have e2 : 65536 * (1099511627776 * p7 + 4294967296 * (p6 + p7) + 16777216 * (p5 + p6) + 65536 * (p4 + p5) + 256 * (p3 + p4) + (p2 + p3)) + (256 * (p1 + p2) + (p0 + p1)) + (1099511627776 * p7 + 4294967296 * (p6 + p7) + 16777216 * (p5 + p6) + 65536 * (p4 + p5) + 256 * (p3 + p4) + (p2 + p3)) = 4294967296 * (16777216 * p7 + 65536 * (p6 + p7) + 256 * (p5 + p6 + p7) + (p4 + p5 + p6 + p7)) + (16777216 * (p3 + p4 + p5 + p6) + 65536 * (p2 + p3 + p4 + p5) + 256 * (p1 + p2 + p3 + p4) + (p0 + p1 + p2 + p3)) := by omega
  rw [e2, dvm (k := 4294967296) (show 16777216 * (p3 + p4 + p5 + p6) + 65536 * (p2 + p3 + p4 + p5) + 256 * (p1 + p2 + p3 + p4) + (p0 + p1 + p2 + p3) < 4294967296 by omega)]
  refine ⟨by omega, ?_⟩
  have e3 : 4294967296 * (16777216 * p7 + 65536 * (p6 + p7) + 256 * (p5 + p6 + p7) + (p4 + p5 + p6 + p7)) + (16777216 * (p3 + p4 + p5 + p6) + 65536 * (p2 + p3 + p4 + p5) + 256 * (p1 + p2 + p3 + p4) + (p0 + p1 + p2 + p3)) + (16777216 * p7 + 65536 * (p6 + p7) + 256 * (p5 + p6 + p7) + (p4 + p5 + p6 + p7)) = 128 * (33554432 * (16777216 * p7 + 65536 * (p6 + p7) + 256 * (p5 + p6 + p7) + (p4 + p5 + p6 + p7)) + (131072 * (p3 + p4 + p5 + p6) + 512 * (p2 + p3 + p4 + p5) + 2 * (p1 + p2 + p3 + p4)) + (131072 * p7 + 512 * (p6 + p7) + 2 * (p5 + p6 + p7))) + (0 + p7 + p6 + p5 + p4 + p3 + p2 + p1 + p0) := by omega
  rw [e3, Nat.mul_add_mod, Nat.mod_eq_of_lt (by omega)]
theorem spr8 {g : Nat → Nat} (hg : ∀ a, a < 256 → g a ≤ 8) (x : Nat) : spr g 8 x < 650000000000000000 ∧ (spr g 8 x + spr g 8 x / 256 + (spr g 8 x + spr g 8 x / 256) / 65536 + (spr g 8 x + spr g 8 x / 256 + (spr g 8 x + spr g 8 x / 256) / 65536) / 4294967296) % 128 = tot g 8 x := by
  have h0 := hg (x % 256) (Nat.mod_lt _ (by decide))
  have h1 := hg (x / 256 % 256) (Nat.mod_lt _ (by decide))
  have h2 := hg (x / 256 / 256 % 256) (Nat.mod_lt _ (by decide))
  have h3 := hg (x / 256 / 256 / 256 % 256) (Nat.mod_lt _ (by decide))
  have h4 := hg (x / 256 / 256 / 256 / 256 % 256) (Nat.mod_lt _ (by decide))
  have h5 := hg (x / 256 / 256 / 256 / 256 / 256 % 256) (Nat.mod_lt _ (by decide))
  have h6 := hg (x / 256 / 256 / 256 / 256 / 256 / 256 % 256) (Nat.mod_lt _ (by decide))
  have h7 := hg (x / 256 / 256 / 256 / 256 / 256 / 256 / 256 % 256) (Nat.mod_lt _ (by decide))
  have e1 : spr g 8 x = 256 * (256 * (256 * (256 * (256 * (256 * (256 * (256 * 0 + g (x / 256 / 256 / 256 / 256 / 256 / 256 / 256 % 256)) + g (x / 256 / 256 / 256 / 256 / 256 / 256 % 256)) + g (x / 256 / 256 / 256 / 256 / 256 % 256)) + g (x / 256 / 256 / 256 / 256 % 256)) + g (x / 256 / 256 / 256 % 256)) + g (x / 256 / 256 % 256)) + g (x / 256 % 256)) + g (x % 256) := rfl
  have e2 : tot g 8 x = 0 + g (x / 256 / 256 / 256 / 256 / 256 / 256 / 256 % 256) + g (x / 256 / 256 / 256 / 256 / 256 / 256 % 256) + g (x / 256 / 256 / 256 / 256 / 256 % 256) + g (x / 256 / 256 / 256 / 256 % 256) + g (x / 256 / 256 / 256 % 256) + g (x / 256 / 256 % 256) + g (x / 256 % 256) + g (x % 256) := rfl
  rw [e1, e2]
  generalize g (x / 256 / 256 / 256 / 256 / 256 / 256 / 256 % 256) = p7 at *
  generalize g (x / 256 / 256 / 256 / 256 / 256 / 256 % 256) = p6 at *
  generalize g (x / 256 / 256 / 256 / 256 / 256 % 256) = p5 at *
  generalize g (x / 256 / 256 / 256 / 256 % 256) = p4 at *
  generalize g (x / 256 / 256 / 256 % 256) = p3 at *
  generalize g (x / 256 / 256 % 256) = p2 at *
  generalize g (x / 256 % 256) = p1 at *
  generalize g (x % 256) = p0 at *
  clear e1 e2
  exact spr8a h0 h1 h2 h3 h4 h5 h6 h7
