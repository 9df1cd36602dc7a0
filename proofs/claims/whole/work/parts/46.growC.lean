/-! Growing, one cell after the other; the class: floorDiv, floorMod, power, childOf, grownCell. -/
def chW (K : SK) (R : SR) (r : Nat) (c : Option Tl) (i j : Nat) : Option Tl := match c with
  | none => none
  | some none => some none
  | some (some (k, m, s)) => if m % 2 = 1 ∧ rR R r ≠ rC R r then none else some (bkT K R r (some (k, m, s)) i j)
def lw (K : SK) (R : SR) (r : Nat) (f : Nat → Nat → Tl) : Nat → Nat → Nat → Option Tl
  | 0, i, k => some (f i k)
  | t + 1, i, k => chW K R r (lw K R r f t (i / rR R r) (k / rC R r)) (i % rR R r) (k % rC R r)
def okW (n : Nat) (c : Option Tl) : Prop := match c with
  | none => True
  | some c => okT n c
def eW (c : Option Tl) : Int32 := match c with
  | none => -3
  | some c => eC c
theorem chW_ok {K : SK} (hO : KO K) {R : SR} (hRO : RO K.1 R) {r : Nat} (hr : r < R.1) {c : Option Tl} (hc : okW K.1 c) {i j : Nat} (hi : i < rR R r) (hj : j < rC R r) : okW K.1 (chW K R r c i j) := by
  match c, hc with
  | none, _ => trivial
  | some none, _ => trivial
  | some (some (k, m, s)), hc =>
    unfold chW
    dsimp only
    split
    · trivial
    · rename_i h
      exact bkT_ok (c := some (k, m, s)) hO hRO hr hc hi hj h
theorem chW_some {K : SK} {R : SR} {r : Nat} {c : Tl} {i j : Nat} : chW K R r (some c) i j = none ∨ chW K R r (some c) i j = some (bkT K R r c i j) := by
  match c with
  | none => exact Or.inr rfl
  | some (k, m, s) =>
    unfold chW
    dsimp only
    split
    · exact Or.inl rfl
    · exact Or.inr rfl
theorem chW_even {K : SK} {R : SR} {r : Nat} {c : Tl} {i j : Nat} (h : ¬ (oddT c ∧ rR R r ≠ rC R r)) : chW K R r (some c) i j = some (bkT K R r c i j) := by
  match c, h with
  | none, _ => rfl
  | some (k, m, s), h => exact if_neg h
theorem chW_odd {K : SK} {R : SR} {r : Nat} {c : Tl} {i j : Nat} (h : oddT c ∧ rR R r ≠ rC R r) : chW K R r (some c) i j = none := by
  match c, h with
  | none, h => exact absurd h.1 id
  | some (k, m, s), h => exact if_pos h
theorem lw_or (K : SK) (R : SR) (r : Nat) (l : LV) : ∀ t i k, lw K R r (gX l) t i k = none ∨ lw K R r (gX l) t i k = some (gX (lvN K R r l t) i k)
  | 0, i, k => Or.inr rfl
  | t + 1, i, k => by
    show chW K R r (lw K R r (gX l) t (i / rR R r) (k / rC R r)) (i % rR R r) (k % rC R r) = none ∨ chW K R r (lw K R r (gX l) t (i / rR R r) (k / rC R r)) (i % rR R r) (k % rC R r) = some (bkT K R r (gX (lvN K R r l t) (i / rR R r) (k / rC R r)) (i % rR R r) (k % rC R r))
    rcases lw_or K R r l t (i / rR R r) (k / rC R r) with h | h
    · rw [h]; exact Or.inl rfl
    · rw [h]
      exact chW_some
theorem lw_up {K : SK} {R : SR} {r : Nat} (hR : 1 ≤ rR R r) (hC : 1 ≤ rC R r) {f : Nat → Nat → Tl} {t i k : Nat} (h : lw K R r f t i k = none) : ∀ d, lw K R r f (t + d) (i * rR R r ^ d) (k * rC R r ^ d) = none
  | 0 => by rw [Nat.pow_zero, Nat.pow_zero, Nat.mul_one, Nat.mul_one]; exact h
  | d + 1 => by
    have ih := lw_up hR hC h d
    show chW K R r (lw K R r f (t + d) (i * rR R r ^ (d + 1) / rR R r) (k * rC R r ^ (d + 1) / rC R r)) _ _ = none
    rw [Nat.pow_succ, ← Nat.mul_assoc, Nat.mul_div_cancel _ hR, Nat.pow_succ, ← Nat.mul_assoc, Nat.mul_div_cancel _ hC, ih]
    rfl
theorem lv_sz (K : SK) (R : SR) (r : Nat) (l : LV) : ∀ t, gN (lvN K R r l t) = gN l * rR R r ^ t ∧ (∀ i, gL (lvN K R r l t) i = gL l (i / rR R r ^ t) * rC R r ^ t) ∧ ∀ i, gO (lvN K R r l t) i = gO l (i / rR R r ^ t) * ((rC R r ^ t : Nat) : Int)
  | 0 => by
    refine ⟨?_, fun i => ?_, fun i => ?_⟩
    · rw [Nat.pow_zero, Nat.mul_one]; rfl
    · rw [Nat.pow_zero, Nat.pow_zero, Nat.mul_one, Nat.div_one]; rfl
    · rw [Nat.pow_zero, Nat.pow_zero, Nat.div_one]; show gO l i = gO l i * 1; rw [Int.mul_one]
  | t + 1 => by
    obtain ⟨h1, h2, h3⟩ := lv_sz K R r l t
    have e : ∀ i : Nat, i / rR R r / rR R r ^ t = i / rR R r ^ (t + 1) := fun i => by rw [Nat.div_div_eq_div_mul, Nat.pow_succ, Nat.mul_comm]
    refine ⟨?_, fun i => ?_, fun i => ?_⟩
    · show gN (lvN K R r l t) * rR R r = _
      rw [h1, Nat.pow_succ, Nat.mul_assoc]
    · show gL (lvN K R r l t) (i / rR R r) * rC R r = _
      rw [h2, e, show rC R r ^ (t + 1) = rC R r ^ t * rC R r from Nat.pow_succ _ _, Nat.mul_assoc]
    · show gO (lvN K R r l t) (i / rR R r) * ((rC R r : Nat) : Int) = _
      rw [h3, e, show rC R r ^ (t + 1) = rC R r ^ t * rC R r from Nat.pow_succ _ _, Int.natCast_mul, Int.mul_assoc]
def szP (R : SR) (r : Nat) (l : LV) (t : Nat) : Prop := gN l * rR R r ^ t ≤ 60 ∧ ∀ i, i < gN l → gL l i * rC R r ^ t ≤ 60 ∧ -30 ≤ gO l i * ((rC R r ^ t : Nat) : Int) ∧ gO l i * ((rC R r ^ t : Nat) : Int) ≤ 30
def stW (K : SK) (R : SR) (r : Nat) (l : LV) (s : Nat) : Prop := rR R r = rC R r ∨ ∀ i, i < gN l * rR R r ^ s → ∀ k, k < gL l (i / rR R r ^ s) * rC R r ^ s → ¬ lw K R r (gX l) s i k = none
theorem pw_le {a : Nat} (h : 1 ≤ a) (t : Nat) : a ^ t ≤ a ^ (t + 1) := by
  rw [Nat.pow_succ]
  exact Nat.le_mul_of_pos_right _ h
theorem sz_down {R : SR} {r : Nat} (hR : 1 ≤ rR R r) (hC : 1 ≤ rC R r ∧ rC R r ≤ 4) {l : LV} {t : Nat} (h : szP R r l (t + 1)) : szP R r l t := by
  refine ⟨Nat.le_trans (Nat.mul_le_mul_left _ (pw_le hR t)) h.1, fun i hi => ?_⟩
  obtain ⟨h1, h2, h3⟩ := h.2 i hi
  refine ⟨Nat.le_trans (Nat.mul_le_mul_left _ (pw_le hC.1 t)) h1, ?_⟩
  rw [Nat.pow_succ, Int.natCast_mul, ← Int.mul_assoc] at h2 h3
  generalize gO l i * ((rC R r ^ t : Nat) : Int) = w at h2 h3 ⊢
  have c1 : rC R r = 1 ∨ rC R r = 2 ∨ rC R r = 3 ∨ rC R r = 4 := by omega
  rcases c1 with c1 | c1 | c1 | c1 <;> rw [c1] at h2 h3 <;> omega
theorem sz_downs {R : SR} {r : Nat} (hR : 1 ≤ rR R r) (hC : 1 ≤ rC R r ∧ rC R r ≤ 4) {l : LV} {t : Nat} : ∀ d, szP R r l (t + d) → szP R r l t
  | 0, h => h
  | d + 1, h => sz_downs hR hC d (sz_down hR hC h)
theorem sz_of {K : SK} {R : SR} {r : Nat} (hR : 1 ≤ rR R r) {l : LV} {t : Nat} (h : okLv R r (lvN K R r l t)) : szP R r l (t + 1) := by
  obtain ⟨s1, s2, s3⟩ := lv_sz K R r l t
  refine ⟨?_, fun i hi => ?_⟩
  · rw [Nat.pow_succ, ← Nat.mul_assoc, ← s1]; exact h.1
  · have hp : 0 < rR R r ^ t := Nat.pow_pos (by omega)
    have hi2 : i * rR R r ^ t < gN (lvN K R r l t) := by rw [s1]; exact Nat.mul_lt_mul_of_pos_right hi hp
    have z := (h.2 _ hi2).1
    rw [s2, s3, Nat.mul_div_cancel _ hp] at z
    rw [Nat.pow_succ, ← Nat.mul_assoc, Int.natCast_mul, ← Int.mul_assoc]
    exact z
theorem lw_some {K : SK} {R : SR} {r : Nat} (hz : 1 ≤ rR R r ∧ 1 ≤ rC R r) {l : LV} : ∀ s, (∀ t, t < s → okLv R r (lvN K R r l t)) → ∀ i, i < gN (lvN K R r l s) → ∀ k, k < gL (lvN K R r l s) i → lw K R r (gX l) s i k = some (gX (lvN K R r l s) i k)
  | 0, _, i, _, k, _ => rfl
  | s + 1, h, i, hi, k, hk => by
    have hi : i < gN (lvN K R r l s) * rR R r := hi
    have hk : k < gL (lvN K R r l s) (i / rR R r) * rC R r := hk
    obtain ⟨h1, -, -⟩ := dm_lt hi
    obtain ⟨h2, -, -⟩ := dm_lt hk
    have ih := lw_some hz s (fun t ht => h t (by omega)) _ h1 _ h2
    show chW K R r (lw K R r (gX l) s (i / rR R r) (k / rC R r)) (i % rR R r) (k % rC R r) = _
    rw [ih, chW_even (((h s (by omega)).2 _ h1).2 _ h2)]
    rfl
theorem gr_iff {K : SK} {R : SR} {n : Nat} (hRO : RO n R) {r : Nat} (hr : r < R.1) {l : LV} (hl : LO n l) (s : Nat) : (∀ t, t < s → okLv R r (lvN K R r l t)) ↔ szP R r l s ∧ stW K R r l s := by
  have hz := (hRO.2 r hr).1
  constructor
  · intro h
    refine ⟨?_, ?_⟩
    · cases s with
      | zero =>
        refine ⟨by rw [Nat.pow_zero, Nat.mul_one]; exact hl.1, fun i hi => ?_⟩
        have := (hl.2 i hi).1
        rw [Nat.pow_zero, Nat.mul_one]
        show _ ∧ -30 ≤ gO l i * 1 ∧ gO l i * 1 ≤ 30
        omega
      | succ t => exact sz_of (by omega) (h t (by omega))
    · refine Or.inr (fun i hi k hk => ?_)
      obtain ⟨s1, s2, s3⟩ := lv_sz K R r l s
      rw [lw_some (by omega) s h i (by rw [s1]; exact hi) k (by rw [s2]; exact hk)]
      intro z
      cases z
  · rintro ⟨h1, h2⟩ t ht
    obtain ⟨s1, s2, s3⟩ := lv_sz K R r l t
    have hsz : szP R r l (t + 1) := sz_downs (by omega) (by omega) (s - (t + 1)) (by rw [show t + 1 + (s - (t + 1)) = s by omega]; exact h1)
    have hp : 0 < rR R r ^ t := Nat.pow_pos (by omega)
    refine ⟨?_, fun i hi => ⟨?_, fun k hk hod => ?_⟩⟩
    · rw [s1, Nat.mul_assoc, ← Nat.pow_succ]; exact hsz.1
    · rw [s1] at hi
      have hq : i / rR R r ^ t < gN l := by rw [Nat.div_lt_iff_lt_mul hp]; exact hi
      have z := hsz.2 _ hq
      rw [Nat.pow_succ, ← Nat.mul_assoc, Int.natCast_mul, ← Int.mul_assoc] at z
      rw [s2, s3]
      exact z
    · rcases h2 with h2 | h2
      · exact hod.2 h2
      · have e0 : lw K R r (gX l) (t + 1) (i * rR R r) (k * rC R r) = none := by
          show chW K R r (lw K R r (gX l) t (i * rR R r / rR R r) (k * rC R r / rC R r)) _ _ = none
          rw [Nat.mul_div_cancel _ (show 0 < rR R r by omega), Nat.mul_div_cancel _ (show 0 < rC R r by omega)]
          rcases lw_or K R r l t i k with z | z
          · rw [z]; rfl
          · rw [z]; exact chW_odd hod
        have e1 := lw_up (by omega) (by omega) e0 (s - (t + 1))
        rw [show t + 1 + (s - (t + 1)) = s by omega, Nat.mul_assoc, Nat.mul_assoc, Nat.mul_comm (rR R r), Nat.mul_comm (rC R r), ← Nat.pow_succ, ← Nat.pow_succ, show (s - (t + 1)).succ = s - t by omega] at e1
        rw [s1] at hi
        rw [s2] at hk
        have es : rR R r ^ s = rR R r ^ (s - t) * rR R r ^ t := by rw [← Nat.pow_add, show s - t + t = s by omega]
        have ec : rC R r ^ s = rC R r ^ t * rC R r ^ (s - t) := by rw [← Nat.pow_add, show t + (s - t) = s by omega]
        have hpd : 0 < rR R r ^ (s - t) := Nat.pow_pos (by omega)
        have hpc : 0 < rC R r ^ (s - t) := Nat.pow_pos (by omega)
        refine h2 _ ?_ _ ?_ e1
        · rw [es, Nat.mul_comm (rR R r ^ (s - t)), ← Nat.mul_assoc]
          exact Nat.mul_lt_mul_of_pos_right hi hpd
        · rw [es, ← Nat.div_div_eq_div_mul, Nat.mul_div_cancel _ hpd, ec, ← Nat.mul_assoc]
          exact Nat.mul_lt_mul_of_pos_right hk hpc
theorem xor_neg {x y : Int32} (hy : ¬ y < 0) : x ^^^ y < 0 ↔ x < 0 := by
  have h0 : ∀ z : Int32, z < 0 ↔ z.toBitVec.msb = true := fun z => by
    rw [Int32.lt_iff_toInt_lt, BitVec.msb_eq_toInt, decide_eq_true_eq]
    exact Iff.rfl
  rw [h0] at hy
  rw [h0, h0, Int32.toBitVec_xor, BitVec.msb_xor]
  cases hm : y.toBitVec.msb with
  | true => exact absurd hm hy
  | false => rw [Bool.xor_false]
theorem neg_div {m A : Nat} (hm : m < 2147483648) (hA : A < 2147483648) : J (-(m : Int)) / nI A = J (-((m / A : Nat) : Int)) := by
  have hq : m / A < 2147483648 := Nat.lt_of_le_of_lt (Nat.div_le_self m A) hm
  have ht : ((m : Int).tdiv (A : Int)) = ((m / A : Nat) : Int) := by rw [Int.tdiv_eq_ediv_of_nonneg (by omega)]; rfl
  obtain ⟨q, hq0⟩ : ∃ q, m / A = q := ⟨_, rfl⟩
  rw [hq0] at hq ht ⊢
  apply Int32.toInt_inj.mp
  rw [Int32.toInt_div, J_toInt (by omega) (by omega), nI_toInt hA, J_toInt (by omega) (by omega), Int.neg_tdiv, ht]
  exact Int.bmod_eq_of_le (by omega) (by omega)
theorem fd_neg {m A : Nat} (hA : 0 < A) : (-(m : Int)) / (A : Int) = (if m / A * A = m then -((m / A : Nat) : Int) else -((m / A : Nat) : Int) - 1) ∧ (-(m : Int)) % (A : Int) = (if m / A * A = m then 0 else (A : Int) - ((m % A : Nat) : Int)) := by
  have h1 := dm_eq m A
  have h2 := Nat.mod_lt m hA
  have key : (((m / A : Nat) : Int) * (A : Int)) + ((m % A : Nat) : Int) = (m : Int) := by rw [← Int.natCast_mul, ← Int.natCast_add, h1]
  generalize m / A = q at *
  generalize m % A = e at *
  have hA' : (0 : Int) < (A : Int) := by omega
  by_cases hc : q * A = m
  · rw [if_pos hc, if_pos hc]
    refine (Int.ediv_emod_unique hA').mpr ⟨?_, by omega, hA'⟩
    rw [Int.mul_neg, Int.mul_comm]
    omega
  · rw [if_neg hc, if_neg hc]
    refine (Int.ediv_emod_unique hA').mpr ⟨?_, by omega, by omega⟩
    rw [Int.mul_sub, Int.mul_neg, Int.mul_one, Int.mul_comm]
    omega
theorem jd_floorDiv_s {S : mj_S} {h : mj_H} {j : Int} (hj : -100000 ≤ j ∧ j ≤ 100000) {A : Nat} (hA : 1 ≤ A ∧ A ≤ 1024) : Cl S jd_floorDiv [.int (J j), .int (nI A)] h (Pu (.int (J (j / (A : Int)))) h) := by
  by_cases h0 : 0 ≤ j
  · obtain ⟨m, rfl⟩ : ∃ m : Nat, j = (m : Int) := ⟨j.toNat, by omega⟩
    rw [← nIJ]
    show Ex S jd_floorDiv 0 [some (.int (nI (m))), some (.int (nI (A))), none] [] h _
    refine Ex_iload_n d_jd_floorDiv_0 rfl ?_
    refine Ex_iload_n d_jd_floorDiv_1 rfl ?_
    refine Ex_idivN (m) (A) d_jd_floorDiv_2 rfl rfl (by omega) (by omega) ?_
    refine Ex_istore_n [some (.int (nI (m))), some (.int (nI (A))), some (.int (nI (m / A)))] d_jd_floorDiv_3 (Nat.le_of_ble_eq_true rfl) rfl ?_
    refine Ex_iload_n d_jd_floorDiv_4 rfl ?_
    refine Ex_iload_n d_jd_floorDiv_5 rfl ?_
    refine Ex_ixor d_jd_floorDiv_6 ?_
    refine Ex_if_ge 21 d_jd_floorDiv_7 rfl (fun hc7 => ?_) (fun hc7 => ?_)
    · refine Ex_iload_n d_jd_floorDiv_21 rfl ?_
      refine Ex_ireturn d_jd_floorDiv_22 rfl ?_
      exact Pu_nz rfl
    · exact absurd (Int32.not_lt.mp (fun z => nI_nonneg (show m < 2147483648 by omega) ((xor_neg (nI_nonneg (show A < 2147483648 by omega))).mp z))) hc7
  · obtain ⟨m, rfl⟩ : ∃ m : Nat, j = -(m : Int) := ⟨(-j).toNat, by omega⟩
    have hq := Nat.div_le_self m A
    obtain ⟨w1, w2⟩ := fd_neg (m := m) (A := A) (by omega)
    have w3 := dm_eq m A
    have w4 := Nat.mod_lt m (show 0 < A by omega)
    have w5 : m / A * A ≤ m := Nat.div_mul_le_self m A
    have w6 : -((m / A : Nat) : Int) * (A : Int) = -((m / A * A : Nat) : Int) := by rw [Int.natCast_mul, Int.neg_mul]
    show Ex S jd_floorDiv 0 [some (.int (J (-(m : Int)))), some (.int (nI (A))), none] [] h _
    refine Ex_iload_n d_jd_floorDiv_0 rfl ?_
    refine Ex_iload_n d_jd_floorDiv_1 rfl ?_
    refine Ex_idiv d_jd_floorDiv_2 (by (intro z; have := (nI_eq (a := A) (b := 0) (by omega) (by omega)).mp z; omega)) ?_
    rw [show (((J (-(m : Int))) / (nI (A))) : Int32) = (J (-((m / A : Nat) : Int))) from (neg_div (by omega) (by omega))]
    refine Ex_istore_n [some (.int (J (-(m : Int)))), some (.int (nI (A))), some (.int (J (-((m / A : Nat) : Int))))] d_jd_floorDiv_3 (Nat.le_of_ble_eq_true rfl) rfl ?_
    refine Ex_iload_n d_jd_floorDiv_4 rfl ?_
    refine Ex_iload_n d_jd_floorDiv_5 rfl ?_
    refine Ex_ixor d_jd_floorDiv_6 ?_
    refine Ex_if_ge 21 d_jd_floorDiv_7 rfl (fun hc7 => ?_) (fun hc7 => ?_)
    · exact absurd ((xor_neg (nI_nonneg (show A < 2147483648 by omega))).mpr ((J_lt (a := -(m : Int)) (b := 0) (by omega) (by omega) (by omega) (by omega)).mpr (by omega))) (Int32.not_lt.mpr hc7)
    · refine Ex_iload_n d_jd_floorDiv_10 rfl ?_
      refine Ex_iload_n d_jd_floorDiv_11 rfl ?_
      refine Ex_imulZ (-((m / A : Nat) : Int)) (((A : Nat) : Int)) d_jd_floorDiv_12 rfl (nIJ _) ?_
      rw [show ((J ((-((m / A : Nat) : Int)) * (((A : Nat) : Int)))) : Int32) = (J (-((m / A * A : Nat) : Int))) from (by rw [w6])]
      refine Ex_iload_n d_jd_floorDiv_13 rfl ?_
      refine Ex_icmp_eqZ (-((m / A * A : Nat) : Int)) (-(m : Int)) 21 d_jd_floorDiv_14 rfl rfl rfl (by omega) (by omega) (fun hc14 => ?_) (fun hc14 => ?_)
      · refine Ex_iload_n d_jd_floorDiv_21 rfl ?_
        refine Ex_ireturn d_jd_floorDiv_22 rfl ?_
        exact Pu_z (by rw [w1, if_pos (by omega)])
      · refine Ex_iload_n d_jd_floorDiv_17 rfl ?_
        refine Ex_iconst d_jd_floorDiv_18 ic_1 ?_
        refine Ex_isubZ (-((m / A : Nat) : Int)) ((1)) d_jd_floorDiv_19 rfl (by decide) ?_
        refine Ex_ireturn d_jd_floorDiv_20 rfl ?_
        exact Pu_z (by rw [w1, if_neg (by omega)])
theorem jd_floorMod_s {S : mj_S} {h : mj_H} {j : Int} (hj : -100000 ≤ j ∧ j ≤ 100000) {A : Nat} (hA : 1 ≤ A ∧ A ≤ 1024) : Cl S jd_floorMod [.int (J j), .int (nI A)] h (Pu (.int (J (j % (A : Int)))) h) := by
  by_cases h0 : 0 ≤ j
  · obtain ⟨m, rfl⟩ : ∃ m : Nat, j = (m : Int) := ⟨j.toNat, by omega⟩
    rw [← nIJ]
    show Ex S jd_floorMod 0 [some (.int (nI (m))), some (.int (nI (A))), none] [] h _
    refine Ex_iload_n d_jd_floorMod_0 rfl ?_
    refine Ex_iload_n d_jd_floorMod_1 rfl ?_
    refine Ex_iremN (m) (A) d_jd_floorMod_2 rfl rfl (by omega) (by omega) ?_
    refine Ex_istore_n [some (.int (nI (m))), some (.int (nI (A))), some (.int (nI (m % A)))] d_jd_floorMod_3 (Nat.le_of_ble_eq_true rfl) rfl ?_
    refine Ex_iload_n d_jd_floorMod_4 rfl ?_
    refine Ex_iload_n d_jd_floorMod_5 rfl ?_
    refine Ex_ixor d_jd_floorMod_6 ?_
    refine Ex_if_ge 18 d_jd_floorMod_7 rfl (fun hc7 => ?_) (fun hc7 => ?_)
    · refine Ex_iload_n d_jd_floorMod_18 rfl ?_
      refine Ex_ireturn d_jd_floorMod_19 rfl ?_
      exact Pu_nz rfl
    · exact absurd (Int32.not_lt.mp (fun z => nI_nonneg (show m < 2147483648 by omega) ((xor_neg (nI_nonneg (show A < 2147483648 by omega))).mp z))) hc7
  · obtain ⟨m, rfl⟩ : ∃ m : Nat, j = -(m : Int) := ⟨(-j).toNat, by omega⟩
    have hq := Nat.div_le_self m A
    obtain ⟨w1, w2⟩ := fd_neg (m := m) (A := A) (by omega)
    have w3 := dm_eq m A
    have w4 := Nat.mod_lt m (show 0 < A by omega)
    have w5 : m / A * A ≤ m := Nat.div_mul_le_self m A
    have w6 : -((m / A : Nat) : Int) * (A : Int) = -((m / A * A : Nat) : Int) := by rw [Int.natCast_mul, Int.neg_mul]
    show Ex S jd_floorMod 0 [some (.int (J (-(m : Int)))), some (.int (nI (A))), none] [] h _
    refine Ex_iload_n d_jd_floorMod_0 rfl ?_
    refine Ex_iload_n d_jd_floorMod_1 rfl ?_
    refine Ex_irem d_jd_floorMod_2 (by (intro z; have := (nI_eq (a := A) (b := 0) (by omega) (by omega)).mp z; omega)) ?_
    rw [show (((J (-(m : Int))) - (J (-(m : Int))) / (nI (A)) * (nI (A))) : Int32) = (J (-((m % A : Nat) : Int))) from (by rw [neg_div (by omega) (by omega), nIJ A, J_mul, J_sub, w6]; congr 1; omega)]
    refine Ex_istore_n [some (.int (J (-(m : Int)))), some (.int (nI (A))), some (.int (J (-((m % A : Nat) : Int))))] d_jd_floorMod_3 (Nat.le_of_ble_eq_true rfl) rfl ?_
    refine Ex_iload_n d_jd_floorMod_4 rfl ?_
    refine Ex_iload_n d_jd_floorMod_5 rfl ?_
    refine Ex_ixor d_jd_floorMod_6 ?_
    refine Ex_if_ge 18 d_jd_floorMod_7 rfl (fun hc7 => ?_) (fun hc7 => ?_)
    · exact absurd ((xor_neg (nI_nonneg (show A < 2147483648 by omega))).mpr ((J_lt (a := -(m : Int)) (b := 0) (by omega) (by omega) (by omega) (by omega)).mpr (by omega))) (Int32.not_lt.mpr hc7)
    · refine Ex_iload_n d_jd_floorMod_10 rfl ?_
      refine Ex_if_eqZ (-((m % A : Nat) : Int)) 18 d_jd_floorMod_11 rfl rfl (by omega) (fun hc11 => ?_) (fun hc11 => ?_)
      · refine Ex_iload_n d_jd_floorMod_18 rfl ?_
        refine Ex_ireturn d_jd_floorMod_19 rfl ?_
        exact Pu_z (by rw [w2, if_pos (by omega)]; omega)
      · refine Ex_iload_n d_jd_floorMod_14 rfl ?_
        refine Ex_iload_n d_jd_floorMod_15 rfl ?_
        refine Ex_iaddZ (-((m % A : Nat) : Int)) (((A : Nat) : Int)) d_jd_floorMod_16 rfl (nIJ _) ?_
        refine Ex_ireturn d_jd_floorMod_17 rfl ?_
        exact Pu_z (by rw [w2, if_neg (by omega)]; omega)
theorem pw_b {a : Nat} (h : 1 ≤ a ∧ a ≤ 4) {n : Nat} (hn : n ≤ 5) : 1 ≤ a ^ n ∧ a ^ n ≤ 1024 :=
  ⟨Nat.pow_pos (by omega), Nat.le_trans (Nat.pow_le_pow_left h.2 n) (Nat.le_trans (Nat.pow_le_pow_right (by omega) hn) (by decide))⟩
theorem to_power_L {S : mj_S} {Q : Option Value → mj_H → Prop} {h : mj_H} {a s : Nat} (ha : 1 ≤ a ∧ a ≤ 4) (hs5 : s ≤ 5)
    (kx : Ex S to_power 23 [some (.int (nI (a))), some (.int (nI (s))), some (.int (nI (a ^ s))), some (.int (nI (s)))] [] h Q) : ∀ d k : Nat, k + d = s → Ex S to_power 4 [some (.int (nI (a))), some (.int (nI (s))), some (.int (nI (a ^ k))), some (.int (nI (k)))] [] h Q := by
  intro d
  induction d with
  | zero =>
    intro k hkk
    obtain rfl : s = k := by omega
    refine Ex_iload_n d_to_power_4 rfl ?_
    refine Ex_iload_n d_to_power_5 rfl ?_
    refine Ex_icmp_geN (s) (s) 23 d_to_power_6 rfl rfl rfl (by omega) (by omega) (fun hc6 => ?_) (fun hc6 => ?_)
    · exact kx
    · exfalso; omega
  | succ d ih =>
    intro k hkk
    refine Ex_iload_n d_to_power_4 rfl ?_
    refine Ex_iload_n d_to_power_5 rfl ?_
    refine Ex_icmp_geN (k) (s) 23 d_to_power_6 rfl rfl rfl (by omega) (by omega) (fun hc6 => ?_) (fun hc6 => ?_)
    · exfalso; omega
    · refine Ex_iload_n d_to_power_9 rfl ?_
      refine Ex_iconst d_to_power_10 ic_1 ?_
      refine Ex_iload_n d_to_power_11 rfl ?_
      refine Ex_pS2 (v := .int (nI (a))) d_to_power_12 pk_to_power_295 (by have z := jd_max_s (S := S) (h := h) (a := 1) (b := a) (by omega) (by omega); rw [show max 1 a = a by omega] at z; exact z) ?_
      refine Ex_imulN (a ^ k) (a) d_to_power_15 rfl rfl ?_
      refine Ex_istore_n [some (.int (nI (a))), some (.int (nI (s))), some (.int (nI ((a ^ k) * a))), some (.int (nI (k)))] d_to_power_16 (Nat.le_of_ble_eq_true rfl) rfl ?_
      refine Ex_iincN (k) 1 [some (.int (nI (a))), some (.int (nI (s))), some (.int (nI ((a ^ k) * a))), some (.int (nI (k + 1)))] d_to_power_17 rfl rfl rfl rfl ?_
      refine Ex_goto 4 d_to_power_20 rfl ?_
      have z := ih (k + 1) (by omega)
      rw [Nat.pow_succ] at z
      exact z
theorem to_power_s {S : mj_S} {h : mj_H} {a s : Nat} (ha : 1 ≤ a ∧ a ≤ 4) (hs5 : s ≤ 5) : Cl S to_power [.int (nI (a)), .int (nI (s))] h (Pu (.int (nI (a ^ s))) h) := by
  show Ex S to_power 0 [some (.int (nI (a))), some (.int (nI (s))), none, none] [] h _
  have hb := pw_b ha hs5
  refine Ex_iconst d_to_power_0 ic_1 ?_
  refine Ex_istore_n [some (.int (nI (a))), some (.int (nI (s))), some (.int (1)), none] d_to_power_1 (Nat.le_of_ble_eq_true rfl) rfl ?_
  refine Ex_iconst d_to_power_2 ic_0 ?_
  refine Ex_istore_n [some (.int (nI (a))), some (.int (nI (s))), some (.int (1)), some (.int (0))] d_to_power_3 (Nat.le_of_ble_eq_true rfl) rfl ?_
  refine to_power_L ha hs5 ?_ s 0 (by omega)
  refine Ex_iconst d_to_power_23 ic_1 ?_
  refine Ex_iload_n d_to_power_24 rfl ?_
  refine Ex_pS2 (v := .int (nI (a ^ s))) d_to_power_25 pk_to_power_295 (by have z := jd_max_s (S := S) (h := h) (a := 1) (b := a ^ s) (by omega) (by omega); rw [show max 1 (a ^ s) = a ^ s by omega] at z; exact z) ?_
  refine Ex_ireturn d_to_power_28 rfl ?_
  exact ⟨rfl, rfl⟩
theorem ru_rowBefore_s {S : mj_S} {h : mj_H} {R : SR} {Y : OW} {n : Nat} (hRO : RO n R) {r a b c d : Nat} (hr : r < R.1) (hx : RuC1 R Y h r a b c d) {m i j : Nat} (hm : m < 8) (hi : i < tR m (rR R r) (rC R r)) (hj : j < tC m (rR R r) (rC R r)) : Cl S ru_rowBefore [.ref a, .int (nI m), .int (nI i), .int (nI j)] h (Pu (.int (nI (frI m (rR R r) (rC R r) i j))) h) := by
  show Ex S ru_rowBefore 0 [some (.ref (a)), some (.int (nI (m))), some (.int (nI (i))), some (.int (nI (j)))] [] h _
  obtain ⟨hz1, hz2⟩ := hRO.2 r hr
  unfold tR at hi
  unfold tC at hj
  have h4 : m % 4 = 0 ∨ m % 4 = 1 ∨ m % 4 = 2 ∨ m % 4 = 3 := by omega
  rcases h4 with ht | ht | ht | ht
  · rw [if_pos (by omega)] at hi hj
    refine Ex_iload_n d_ru_rowBefore_0 rfl ?_
    refine Ex_iconst d_ru_rowBefore_1 ic_3 ?_
    refine Ex_iand d_ru_rowBefore_2 ?_
    rw [show (((nI (m)) &&& (3 : Int32)) : Int32) = (nI (m % 4)) from (nI_3 m)]
    rw [show nI (m % 4) = (0 : Int32) by rw [ht]; rfl]
    refine Ex_swIn 28 d_ru_rowBefore_3 (by decide) (by decide) rfl rfl ?_
    refine Ex_iload_n d_ru_rowBefore_28 rfl ?_
    refine Ex_ireturn d_ru_rowBefore_29 rfl ?_
    exact Pu_n (by unfold frI; simp [ht])
  · rw [if_neg (by omega)] at hi hj
    refine Ex_iload_n d_ru_rowBefore_0 rfl ?_
    refine Ex_iconst d_ru_rowBefore_1 ic_3 ?_
    refine Ex_iand d_ru_rowBefore_2 ?_
    rw [show (((nI (m)) &&& (3 : Int32)) : Int32) = (nI (m % 4)) from (nI_3 m)]
    rw [show nI (m % 4) = (1 : Int32) by rw [ht]; rfl]
    refine Ex_swIn 30 d_ru_rowBefore_3 (by decide) (by decide) rfl rfl ?_
    refine Ex_aload_n d_ru_rowBefore_30 rfl ?_
    refine Ex_getIE (y := (nI (rR R r))) d_ru_rowBefore_31 pf_ru_24 rfl hx.2.1.2.1 hx.2.2.1 ?_
    refine Ex_iconst d_ru_rowBefore_34 ic_1 ?_
    refine Ex_isubN (rR R r) (1) d_ru_rowBefore_35 rfl rfl (by omega) ?_
    refine Ex_iload_n d_ru_rowBefore_36 rfl ?_
    refine Ex_isubN ((rR R r) - 1) (j) d_ru_rowBefore_37 rfl rfl (by omega) ?_
    refine Ex_ireturn d_ru_rowBefore_38 rfl ?_
    exact Pu_n (by unfold frI; simp [ht])
  · rw [if_pos (by omega)] at hi hj
    refine Ex_iload_n d_ru_rowBefore_0 rfl ?_
    refine Ex_iconst d_ru_rowBefore_1 ic_3 ?_
    refine Ex_iand d_ru_rowBefore_2 ?_
    rw [show (((nI (m)) &&& (3 : Int32)) : Int32) = (nI (m % 4)) from (nI_3 m)]
    rw [show nI (m % 4) = (2 : Int32) by rw [ht]; rfl]
    refine Ex_swIn 39 d_ru_rowBefore_3 (by decide) (by decide) rfl rfl ?_
    refine Ex_aload_n d_ru_rowBefore_39 rfl ?_
    refine Ex_getIE (y := (nI (rR R r))) d_ru_rowBefore_40 pf_ru_24 rfl hx.2.1.2.1 hx.2.2.1 ?_
    refine Ex_iconst d_ru_rowBefore_43 ic_1 ?_
    refine Ex_isubN (rR R r) (1) d_ru_rowBefore_44 rfl rfl (by omega) ?_
    refine Ex_iload_n d_ru_rowBefore_45 rfl ?_
    refine Ex_isubN ((rR R r) - 1) (i) d_ru_rowBefore_46 rfl rfl (by omega) ?_
    refine Ex_ireturn d_ru_rowBefore_47 rfl ?_
    exact Pu_n (by unfold frI; simp [ht])
  · rw [if_neg (by omega)] at hi hj
    refine Ex_iload_n d_ru_rowBefore_0 rfl ?_
    refine Ex_iconst d_ru_rowBefore_1 ic_3 ?_
    refine Ex_iand d_ru_rowBefore_2 ?_
    rw [show (((nI (m)) &&& (3 : Int32)) : Int32) = (nI (m % 4)) from (nI_3 m)]
    rw [show nI (m % 4) = (3 : Int32) by rw [ht]; rfl]
    refine Ex_swOut 48 d_ru_rowBefore_3 (by decide) rfl ?_
    refine Ex_iload_n d_ru_rowBefore_48 rfl ?_
    refine Ex_ireturn d_ru_rowBefore_49 rfl ?_
    exact Pu_n (by unfold frI; simp [ht])
theorem ru_columnBefore_s {S : mj_S} {h : mj_H} {R : SR} {Y : OW} {n : Nat} (hRO : RO n R) {r a b c d : Nat} (hr : r < R.1) (hx : RuC1 R Y h r a b c d) {m i j : Nat} (hm : m < 8) (hi : i < tR m (rR R r) (rC R r)) (hj : j < tC m (rR R r) (rC R r)) : Cl S ru_columnBefore [.ref a, .int (nI m), .int (nI i), .int (nI j)] h (Pu (.int (nI (frX m (rR R r) (rC R r) i j))) h) := by
  show Ex S ru_columnBefore 0 [some (.ref (a)), some (.int (nI (m))), some (.int (nI (i))), some (.int (nI (j)))] [] h _
  obtain ⟨hz1, hz2⟩ := hRO.2 r hr
  unfold tR at hi
  unfold tC at hj
  have h4 : m % 4 = 0 ∨ m % 4 = 1 ∨ m % 4 = 2 ∨ m % 4 = 3 := by omega
  rcases h4 with ht | ht | ht | ht
  · rw [if_pos (by omega)] at hi hj
    refine Ex_iload_n d_ru_columnBefore_0 rfl ?_
    refine Ex_iconst d_ru_columnBefore_1 ic_3 ?_
    refine Ex_iand d_ru_columnBefore_2 ?_
    rw [show (((nI (m)) &&& (3 : Int32)) : Int32) = (nI (m % 4)) from (nI_3 m)]
    rw [show nI (m % 4) = (0 : Int32) by rw [ht]; rfl]
    refine Ex_swIn 28 d_ru_columnBefore_3 (by decide) (by decide) rfl rfl ?_
    refine Ex_iload_n d_ru_columnBefore_28 rfl ?_
    refine Ex_ireturn d_ru_columnBefore_29 rfl ?_
    exact Pu_n (by unfold frX; simp [ht])
  · rw [if_neg (by omega)] at hi hj
    refine Ex_iload_n d_ru_columnBefore_0 rfl ?_
    refine Ex_iconst d_ru_columnBefore_1 ic_3 ?_
    refine Ex_iand d_ru_columnBefore_2 ?_
    rw [show (((nI (m)) &&& (3 : Int32)) : Int32) = (nI (m % 4)) from (nI_3 m)]
    rw [show nI (m % 4) = (1 : Int32) by rw [ht]; rfl]
    refine Ex_swIn 30 d_ru_columnBefore_3 (by decide) (by decide) rfl rfl ?_
    refine Ex_iload_n d_ru_columnBefore_30 rfl ?_
    refine Ex_ireturn d_ru_columnBefore_31 rfl ?_
    exact Pu_n (by unfold frX; simp [ht])
  · rw [if_pos (by omega)] at hi hj
    refine Ex_iload_n d_ru_columnBefore_0 rfl ?_
    refine Ex_iconst d_ru_columnBefore_1 ic_3 ?_
    refine Ex_iand d_ru_columnBefore_2 ?_
    rw [show (((nI (m)) &&& (3 : Int32)) : Int32) = (nI (m % 4)) from (nI_3 m)]
    rw [show nI (m % 4) = (2 : Int32) by rw [ht]; rfl]
    refine Ex_swIn 32 d_ru_columnBefore_3 (by decide) (by decide) rfl rfl ?_
    refine Ex_aload_n d_ru_columnBefore_32 rfl ?_
    refine Ex_getIE (y := (nI (rC R r))) d_ru_columnBefore_33 pf_ru_28 rfl hx.2.1.2.1 hx.2.2.2.1 ?_
    refine Ex_iconst d_ru_columnBefore_36 ic_1 ?_
    refine Ex_isubN (rC R r) (1) d_ru_columnBefore_37 rfl rfl (by omega) ?_
    refine Ex_iload_n d_ru_columnBefore_38 rfl ?_
    refine Ex_isubN ((rC R r) - 1) (j) d_ru_columnBefore_39 rfl rfl (by omega) ?_
    refine Ex_ireturn d_ru_columnBefore_40 rfl ?_
    exact Pu_n (by unfold frX; simp [ht])
  · rw [if_neg (by omega)] at hi hj
    refine Ex_iload_n d_ru_columnBefore_0 rfl ?_
    refine Ex_iconst d_ru_columnBefore_1 ic_3 ?_
    refine Ex_iand d_ru_columnBefore_2 ?_
    rw [show (((nI (m)) &&& (3 : Int32)) : Int32) = (nI (m % 4)) from (nI_3 m)]
    rw [show nI (m % 4) = (3 : Int32) by rw [ht]; rfl]
    refine Ex_swOut 41 d_ru_columnBefore_3 (by decide) rfl ?_
    refine Ex_aload_n d_ru_columnBefore_41 rfl ?_
    refine Ex_getIE (y := (nI (rC R r))) d_ru_columnBefore_42 pf_ru_28 rfl hx.2.1.2.1 hx.2.2.2.1 ?_
    refine Ex_iconst d_ru_columnBefore_45 ic_1 ?_
    refine Ex_isubN (rC R r) (1) d_ru_columnBefore_46 rfl rfl (by omega) ?_
    refine Ex_iload_n d_ru_columnBefore_47 rfl ?_
    refine Ex_isubN ((rC R r) - 1) (i) d_ru_columnBefore_48 rfl rfl (by omega) ?_
    refine Ex_ireturn d_ru_columnBefore_49 rfl ?_
    exact Pu_n (by unfold frX; simp [ht])
theorem sh_s {S : mj_S} {h : mj_H} {n : Nat} {c : Tl} (hc : okT n c) (hn : n ≤ 40) {s : Nat} (hs : s < 65536) : Cl S ce_shaded [.int (eC c), .int (J (sg s))] h (Pu (.int (eC (shT c s))) h) := by
  match c, hc with
  | none, _ => exact ce_shaded_n (by decide)
  | some (k, m, t), hc =>
    have z := ce_shaded_t (S := S) (h := h) (x := J (sg s)) (Nat.lt_of_lt_of_le hc.1 hn) hc.2.1 hc.2.2
    rw [sg_lo s hs] at z
    exact z
theorem ru_childOf_s {S : mj_S} {h : mj_H} (hs : HT h) {K : SK} (hK : KC K h) (hO : KO K) {R : SR} {Y : OW} (hRO : RO K.1 R) {r a b c d : Nat} (hr : r < R.1) (hx : RuC1 R Y h r a b c d) {w : Option Tl} (hw : okW K.1 w) {i j : Nat} (hi : i < rR R r) (hj : j < rC R r) : Cl S ru_childOf [.ref a, .int (eW w), .int (nI i), .int (nI j), .ref 1] h (Pu (.int (eW (chW K R r w i j))) h) := by
  obtain ⟨hz1, hz2⟩ := hRO.2 r hr
  have h40 := hO.1
  match w, hw with
  | none, _ =>
    show Ex S ru_childOf 0 [some (.ref (a)), some (.int (-3)), some (.int (nI (i))), some (.int (nI (j))), some (.ref 1), none, none, none, none] [] h _
    refine Ex_iload_n d_ru_childOf_0 rfl ?_
    refine Ex_if_geZ ((-3)) 6 d_ru_childOf_1 rfl (by decide) (by omega) (fun hc1 => ?_) (fun hc1 => ?_)
    · exact absurd hc1 (by decide)
    · refine Ex_iload_n d_ru_childOf_4 rfl ?_
      refine Ex_ireturn d_ru_childOf_5 rfl ?_
      exact ⟨rfl, rfl⟩
  | some none, _ =>
    show Ex S ru_childOf 0 [some (.ref (a)), some (.int (-1)), some (.int (nI (i))), some (.int (nI (j))), some (.ref 1), none, none, none, none] [] h _
    refine Ex_iload_n d_ru_childOf_0 rfl ?_
    refine Ex_if_geZ ((-1)) 6 d_ru_childOf_1 rfl (by decide) (by omega) (fun hc1 => ?_) (fun hc1 => ?_)
    · exact absurd hc1 (by decide)
    · refine Ex_iload_n d_ru_childOf_4 rfl ?_
      refine Ex_ireturn d_ru_childOf_5 rfl ?_
      exact ⟨rfl, rfl⟩
  | some (some (k, m, s)), hw =>
    have hk40 : k < 40 := Nat.lt_of_lt_of_le hw.1 hO.1
    have hm8 := hw.2.1
    have hs6 := hw.2.2
    show Ex S ru_childOf 0 [some (.ref (a)), some (.int (nI (k * 524288 + (m * 65536 + s)))), some (.int (nI (i))), some (.int (nI (j))), some (.ref 1), none, none, none, none] [] h _
    refine Ex_iload_n d_ru_childOf_0 rfl ?_
    refine Ex_if_geN (k * 524288 + (m * 65536 + s)) 6 d_ru_childOf_1 rfl rfl (by omega) (fun hc1 => ?_) (fun hc1 => ?_)
    · refine Ex_iload_n d_ru_childOf_6 rfl ?_
      refine Ex_pS1 (v := .int (nI (m))) d_ru_childOf_7 pk_ru_childOf_47 (ce_moveOf_t hk40 hm8 hs6) ?_
      refine Ex_istore [some (.ref (a)), some (.int (nI (k * 524288 + (m * 65536 + s)))), some (.int (nI (i))), some (.int (nI (j))), some (.ref 1), some (.int (nI (m))), none, none, none] d_ru_childOf_10 (Nat.le_of_ble_eq_true rfl) rfl ?_
      refine Ex_aload_n d_ru_childOf_12 rfl ?_
      refine Ex_getIE (y := (nI (rR R r))) d_ru_childOf_13 pf_ru_24 rfl hx.2.1.2.1 hx.2.2.1 ?_
      refine Ex_aload_n d_ru_childOf_16 rfl ?_
      refine Ex_getIE (y := (nI (rC R r))) d_ru_childOf_17 pf_ru_28 rfl hx.2.1.2.1 hx.2.2.2.1 ?_
      refine Ex_icmp_eqN (rR R r) (rC R r) 34 d_ru_childOf_20 rfl rfl rfl (by omega) (by omega) (fun hc20 => ?_) (fun hc20 => ?_)
      · have hod : ¬ (m % 2 = 1 ∧ rR R r ≠ rC R r) := by omega
        obtain ⟨g1, g2⟩ := fr_lt' (m := m) hi hj hod
        obtain ⟨g3, g4⟩ := fr_lt g1 g2
        have hch : chW K R r (some (some (k, m, s))) i j = some (shT (mvT K (rB R r (16 * k + 4 * frI m (rR R r) (rC R r) i j + frJ m (rR R r) (rC R r) i j)) m) s) := if_neg hod
        have hokc := hz2 (16 * k + 4 * frI m (rR R r) (rC R r) i j + frJ m (rR R r) (rC R r) i j) (by omega)
        refine Ex_aload_n d_ru_childOf_34 rfl ?_
        refine Ex_iload d_ru_childOf_35 rfl ?_
        refine Ex_iload_n d_ru_childOf_37 rfl ?_
        refine Ex_iload_n d_ru_childOf_38 rfl ?_
        refine Ex_pV3 (v := .int (nI (frI m (rR R r) (rC R r) i j))) d_ru_childOf_39 pk_ru_childOf_51 hx.2.1.2.1 (ru_rowBefore_s hRO hr hx hm8 g1 g2) ?_
        refine Ex_istore [some (.ref (a)), some (.int (nI (k * 524288 + (m * 65536 + s)))), some (.int (nI (i))), some (.int (nI (j))), some (.ref 1), some (.int (nI (m))), some (.int (nI (frI m (rR R r) (rC R r) i j))), none, none] d_ru_childOf_42 (Nat.le_of_ble_eq_true rfl) rfl ?_
        refine Ex_aload_n d_ru_childOf_44 rfl ?_
        refine Ex_iload d_ru_childOf_45 rfl ?_
        refine Ex_iload_n d_ru_childOf_47 rfl ?_
        refine Ex_iload_n d_ru_childOf_48 rfl ?_
        refine Ex_pV3 (v := .int (nI (frX m (rR R r) (rC R r) i j))) d_ru_childOf_49 pk_ru_childOf_55 hx.2.1.2.1 (ru_columnBefore_s hRO hr hx hm8 g1 g2) ?_
        refine Ex_istore [some (.ref (a)), some (.int (nI (k * 524288 + (m * 65536 + s)))), some (.int (nI (i))), some (.int (nI (j))), some (.ref 1), some (.int (nI (m))), some (.int (nI (frI m (rR R r) (rC R r) i j))), some (.int (nI (frX m (rR R r) (rC R r) i j))), none] d_ru_childOf_52 (Nat.le_of_ble_eq_true rfl) rfl ?_
        refine Ex_aload_n d_ru_childOf_54 rfl ?_
        refine Ex_iload_n d_ru_childOf_55 rfl ?_
        refine Ex_pS1 (v := .int (nI (k))) d_ru_childOf_56 pk_ru_childOf_58 (ce_kindOf_t hk40 hm8 hs6) ?_
        refine Ex_iload d_ru_childOf_59 rfl ?_
        refine Ex_iload d_ru_childOf_61 rfl ?_
        refine Ex_iconst d_ru_childOf_63 ic_4 ?_
        refine Ex_icmp_ltN (m) (4) 79 d_ru_childOf_64 rfl rfl rfl (by omega) (by omega) (fun hc64 => ?_) (fun hc64 => ?_)
        · have hfj : frJ m (rR R r) (rC R r) i j = frX m (rR R r) (rC R r) i j := by unfold frJ; rw [if_neg (by omega)]
          refine Ex_iload d_ru_childOf_79 rfl ?_
          refine Ex_pV3 (v := .int (eC (rB R r (16 * k + 4 * frI m (rR R r) (rC R r) i j + frJ m (rR R r) (rC R r) i j)))) d_ru_childOf_81 pk_ru_childOf_61 hx.2.1.2.1 (by rw [show rB R r (16 * k + 4 * frI m (rR R r) (rC R r) i j + frJ m (rR R r) (rC R r) i j) = rB R r (k * 16 + (frI m (rR R r) (rC R r) i j) * 4 + (frX m (rR R r) (rC R r) i j)) by rw [hfj]; congr 1; omega]; exact ru_cellAt_s hRO hr hx hk40 g3 (by omega)) ?_
          refine Ex_istore [some (.ref (a)), some (.int (nI (k * 524288 + (m * 65536 + s)))), some (.int (nI (i))), some (.int (nI (j))), some (.ref 1), some (.int (nI (m))), some (.int (nI (frI m (rR R r) (rC R r) i j))), some (.int (nI (frX m (rR R r) (rC R r) i j))), some (.int (eC (rB R r (16 * k + 4 * frI m (rR R r) (rC R r) i j + frJ m (rR R r) (rC R r) i j))))] d_ru_childOf_84 (Nat.le_of_ble_eq_true rfl) rfl ?_
          refine Ex_aload d_ru_childOf_86 rfl ?_
          refine Ex_iload d_ru_childOf_88 rfl ?_
          refine Ex_iload d_ru_childOf_90 rfl ?_
          refine Ex_pV2 (v := .int (eC (mvT K (rB R r (16 * k + 4 * frI m (rR R r) (rC R r) i j + frJ m (rR R r) (rC R r) i j)) m))) d_ru_childOf_92 pk_ru_childOf_64 (t_1 hs) (ki_movedCell_s (c := some (rB R r (16 * k + 4 * frI m (rR R r) (rC R r) i j + frJ m (rR R r) (rC R r) i j))) hs hK hO hokc hm8) ?_
          refine Ex_iload_n d_ru_childOf_95 rfl ?_
          refine Ex_pS1 (v := .int (J (sg s))) d_ru_childOf_96 pk_ru_childOf_68 (ce_shadeOf_t hk40 hm8 hs6) ?_
          refine Ex_pS2 (v := .int (eC (shT (mvT K (rB R r (16 * k + 4 * frI m (rR R r) (rC R r) i j + frJ m (rR R r) (rC R r) i j)) m) s))) d_ru_childOf_99 pk_ru_childOf_71 (sh_s (mvT_ok hO hokc) hO.1 hs6) ?_
          refine Ex_ireturn d_ru_childOf_102 rfl ?_
          rw [hch]
          exact ⟨rfl, rfl⟩
        · have hfj : frJ m (rR R r) (rC R r) i j = rC R r - 1 - frX m (rR R r) (rC R r) i j := by unfold frJ; rw [if_pos (by omega)]
          have hfx : frX m (rR R r) (rC R r) i j < rC R r := (fr_lt (m := m % 4) (by unfold tR at g1 ⊢; rw [show m % 4 % 2 = m % 2 by omega]; exact g1) (by unfold tC at g2 ⊢; rw [show m % 4 % 2 = m % 2 by omega]; exact g2)).2 |> (fun z => by unfold frJ frX at z; rw [if_neg (by omega), show m % 4 % 4 = m % 4 by omega] at z; unfold frX; exact z)
          refine Ex_aload_n d_ru_childOf_67 rfl ?_
          refine Ex_getIE (y := (nI (rC R r))) d_ru_childOf_68 pf_ru_28 rfl hx.2.1.2.1 hx.2.2.2.1 ?_
          refine Ex_iconst d_ru_childOf_71 ic_1 ?_
          refine Ex_isubN (rC R r) (1) d_ru_childOf_72 rfl rfl (by omega) ?_
          refine Ex_iload d_ru_childOf_73 rfl ?_
          refine Ex_isubN ((rC R r) - 1) (frX m (rR R r) (rC R r) i j) d_ru_childOf_75 rfl rfl (by omega) ?_
          refine Ex_goto 81 d_ru_childOf_76 rfl ?_
          refine Ex_pV3 (v := .int (eC (rB R r (16 * k + 4 * frI m (rR R r) (rC R r) i j + frJ m (rR R r) (rC R r) i j)))) d_ru_childOf_81 pk_ru_childOf_61 hx.2.1.2.1 (by rw [show rB R r (16 * k + 4 * frI m (rR R r) (rC R r) i j + frJ m (rR R r) (rC R r) i j) = rB R r (k * 16 + (frI m (rR R r) (rC R r) i j) * 4 + (((rC R r) - 1) - (frX m (rR R r) (rC R r) i j))) by rw [hfj]; congr 1; omega]; exact ru_cellAt_s hRO hr hx hk40 g3 (by omega)) ?_
          refine Ex_istore [some (.ref (a)), some (.int (nI (k * 524288 + (m * 65536 + s)))), some (.int (nI (i))), some (.int (nI (j))), some (.ref 1), some (.int (nI (m))), some (.int (nI (frI m (rR R r) (rC R r) i j))), some (.int (nI (frX m (rR R r) (rC R r) i j))), some (.int (eC (rB R r (16 * k + 4 * frI m (rR R r) (rC R r) i j + frJ m (rR R r) (rC R r) i j))))] d_ru_childOf_84 (Nat.le_of_ble_eq_true rfl) rfl ?_
          refine Ex_aload d_ru_childOf_86 rfl ?_
          refine Ex_iload d_ru_childOf_88 rfl ?_
          refine Ex_iload d_ru_childOf_90 rfl ?_
          refine Ex_pV2 (v := .int (eC (mvT K (rB R r (16 * k + 4 * frI m (rR R r) (rC R r) i j + frJ m (rR R r) (rC R r) i j)) m))) d_ru_childOf_92 pk_ru_childOf_64 (t_1 hs) (ki_movedCell_s (c := some (rB R r (16 * k + 4 * frI m (rR R r) (rC R r) i j + frJ m (rR R r) (rC R r) i j))) hs hK hO hokc hm8) ?_
          refine Ex_iload_n d_ru_childOf_95 rfl ?_
          refine Ex_pS1 (v := .int (J (sg s))) d_ru_childOf_96 pk_ru_childOf_68 (ce_shadeOf_t hk40 hm8 hs6) ?_
          refine Ex_pS2 (v := .int (eC (shT (mvT K (rB R r (16 * k + 4 * frI m (rR R r) (rC R r) i j + frJ m (rR R r) (rC R r) i j)) m) s))) d_ru_childOf_99 pk_ru_childOf_71 (sh_s (mvT_ok hO hokc) hO.1 hs6) ?_
          refine Ex_ireturn d_ru_childOf_102 rfl ?_
          rw [hch]
          exact ⟨rfl, rfl⟩
      · refine Ex_iload d_ru_childOf_23 rfl ?_
        refine Ex_iconst d_ru_childOf_25 ic_1 ?_
        refine Ex_iand d_ru_childOf_26 ?_
        rw [show (((nI (m)) &&& (1 : Int32)) : Int32) = (nI (m % 2)) from (nI_1m m)]
        refine Ex_iconst d_ru_childOf_27 ic_1 ?_
        refine Ex_icmp_neN (m % 2) (1) 34 d_ru_childOf_28 rfl rfl rfl (by omega) (by omega) (fun hc28 => ?_) (fun hc28 => ?_)
        · have hod : ¬ (m % 2 = 1 ∧ rR R r ≠ rC R r) := by omega
          obtain ⟨g1, g2⟩ := fr_lt' (m := m) hi hj hod
          obtain ⟨g3, g4⟩ := fr_lt g1 g2
          have hch : chW K R r (some (some (k, m, s))) i j = some (shT (mvT K (rB R r (16 * k + 4 * frI m (rR R r) (rC R r) i j + frJ m (rR R r) (rC R r) i j)) m) s) := if_neg hod
          have hokc := hz2 (16 * k + 4 * frI m (rR R r) (rC R r) i j + frJ m (rR R r) (rC R r) i j) (by omega)
          refine Ex_aload_n d_ru_childOf_34 rfl ?_
          refine Ex_iload d_ru_childOf_35 rfl ?_
          refine Ex_iload_n d_ru_childOf_37 rfl ?_
          refine Ex_iload_n d_ru_childOf_38 rfl ?_
          refine Ex_pV3 (v := .int (nI (frI m (rR R r) (rC R r) i j))) d_ru_childOf_39 pk_ru_childOf_51 hx.2.1.2.1 (ru_rowBefore_s hRO hr hx hm8 g1 g2) ?_
          refine Ex_istore [some (.ref (a)), some (.int (nI (k * 524288 + (m * 65536 + s)))), some (.int (nI (i))), some (.int (nI (j))), some (.ref 1), some (.int (nI (m))), some (.int (nI (frI m (rR R r) (rC R r) i j))), none, none] d_ru_childOf_42 (Nat.le_of_ble_eq_true rfl) rfl ?_
          refine Ex_aload_n d_ru_childOf_44 rfl ?_
          refine Ex_iload d_ru_childOf_45 rfl ?_
          refine Ex_iload_n d_ru_childOf_47 rfl ?_
          refine Ex_iload_n d_ru_childOf_48 rfl ?_
          refine Ex_pV3 (v := .int (nI (frX m (rR R r) (rC R r) i j))) d_ru_childOf_49 pk_ru_childOf_55 hx.2.1.2.1 (ru_columnBefore_s hRO hr hx hm8 g1 g2) ?_
          refine Ex_istore [some (.ref (a)), some (.int (nI (k * 524288 + (m * 65536 + s)))), some (.int (nI (i))), some (.int (nI (j))), some (.ref 1), some (.int (nI (m))), some (.int (nI (frI m (rR R r) (rC R r) i j))), some (.int (nI (frX m (rR R r) (rC R r) i j))), none] d_ru_childOf_52 (Nat.le_of_ble_eq_true rfl) rfl ?_
          refine Ex_aload_n d_ru_childOf_54 rfl ?_
          refine Ex_iload_n d_ru_childOf_55 rfl ?_
          refine Ex_pS1 (v := .int (nI (k))) d_ru_childOf_56 pk_ru_childOf_58 (ce_kindOf_t hk40 hm8 hs6) ?_
          refine Ex_iload d_ru_childOf_59 rfl ?_
          refine Ex_iload d_ru_childOf_61 rfl ?_
          refine Ex_iconst d_ru_childOf_63 ic_4 ?_
          refine Ex_icmp_ltN (m) (4) 79 d_ru_childOf_64 rfl rfl rfl (by omega) (by omega) (fun hc64 => ?_) (fun hc64 => ?_)
          · have hfj : frJ m (rR R r) (rC R r) i j = frX m (rR R r) (rC R r) i j := by unfold frJ; rw [if_neg (by omega)]
            refine Ex_iload d_ru_childOf_79 rfl ?_
            refine Ex_pV3 (v := .int (eC (rB R r (16 * k + 4 * frI m (rR R r) (rC R r) i j + frJ m (rR R r) (rC R r) i j)))) d_ru_childOf_81 pk_ru_childOf_61 hx.2.1.2.1 (by rw [show rB R r (16 * k + 4 * frI m (rR R r) (rC R r) i j + frJ m (rR R r) (rC R r) i j) = rB R r (k * 16 + (frI m (rR R r) (rC R r) i j) * 4 + (frX m (rR R r) (rC R r) i j)) by rw [hfj]; congr 1; omega]; exact ru_cellAt_s hRO hr hx hk40 g3 (by omega)) ?_
            refine Ex_istore [some (.ref (a)), some (.int (nI (k * 524288 + (m * 65536 + s)))), some (.int (nI (i))), some (.int (nI (j))), some (.ref 1), some (.int (nI (m))), some (.int (nI (frI m (rR R r) (rC R r) i j))), some (.int (nI (frX m (rR R r) (rC R r) i j))), some (.int (eC (rB R r (16 * k + 4 * frI m (rR R r) (rC R r) i j + frJ m (rR R r) (rC R r) i j))))] d_ru_childOf_84 (Nat.le_of_ble_eq_true rfl) rfl ?_
            refine Ex_aload d_ru_childOf_86 rfl ?_
            refine Ex_iload d_ru_childOf_88 rfl ?_
            refine Ex_iload d_ru_childOf_90 rfl ?_
            refine Ex_pV2 (v := .int (eC (mvT K (rB R r (16 * k + 4 * frI m (rR R r) (rC R r) i j + frJ m (rR R r) (rC R r) i j)) m))) d_ru_childOf_92 pk_ru_childOf_64 (t_1 hs) (ki_movedCell_s (c := some (rB R r (16 * k + 4 * frI m (rR R r) (rC R r) i j + frJ m (rR R r) (rC R r) i j))) hs hK hO hokc hm8) ?_
            refine Ex_iload_n d_ru_childOf_95 rfl ?_
            refine Ex_pS1 (v := .int (J (sg s))) d_ru_childOf_96 pk_ru_childOf_68 (ce_shadeOf_t hk40 hm8 hs6) ?_
            refine Ex_pS2 (v := .int (eC (shT (mvT K (rB R r (16 * k + 4 * frI m (rR R r) (rC R r) i j + frJ m (rR R r) (rC R r) i j)) m) s))) d_ru_childOf_99 pk_ru_childOf_71 (sh_s (mvT_ok hO hokc) hO.1 hs6) ?_
            refine Ex_ireturn d_ru_childOf_102 rfl ?_
            rw [hch]
            exact ⟨rfl, rfl⟩
          · have hfj : frJ m (rR R r) (rC R r) i j = rC R r - 1 - frX m (rR R r) (rC R r) i j := by unfold frJ; rw [if_pos (by omega)]
            have hfx : frX m (rR R r) (rC R r) i j < rC R r := (fr_lt (m := m % 4) (by unfold tR at g1 ⊢; rw [show m % 4 % 2 = m % 2 by omega]; exact g1) (by unfold tC at g2 ⊢; rw [show m % 4 % 2 = m % 2 by omega]; exact g2)).2 |> (fun z => by unfold frJ frX at z; rw [if_neg (by omega), show m % 4 % 4 = m % 4 by omega] at z; unfold frX; exact z)
            refine Ex_aload_n d_ru_childOf_67 rfl ?_
            refine Ex_getIE (y := (nI (rC R r))) d_ru_childOf_68 pf_ru_28 rfl hx.2.1.2.1 hx.2.2.2.1 ?_
            refine Ex_iconst d_ru_childOf_71 ic_1 ?_
            refine Ex_isubN (rC R r) (1) d_ru_childOf_72 rfl rfl (by omega) ?_
            refine Ex_iload d_ru_childOf_73 rfl ?_
            refine Ex_isubN ((rC R r) - 1) (frX m (rR R r) (rC R r) i j) d_ru_childOf_75 rfl rfl (by omega) ?_
            refine Ex_goto 81 d_ru_childOf_76 rfl ?_
            refine Ex_pV3 (v := .int (eC (rB R r (16 * k + 4 * frI m (rR R r) (rC R r) i j + frJ m (rR R r) (rC R r) i j)))) d_ru_childOf_81 pk_ru_childOf_61 hx.2.1.2.1 (by rw [show rB R r (16 * k + 4 * frI m (rR R r) (rC R r) i j + frJ m (rR R r) (rC R r) i j) = rB R r (k * 16 + (frI m (rR R r) (rC R r) i j) * 4 + (((rC R r) - 1) - (frX m (rR R r) (rC R r) i j))) by rw [hfj]; congr 1; omega]; exact ru_cellAt_s hRO hr hx hk40 g3 (by omega)) ?_
            refine Ex_istore [some (.ref (a)), some (.int (nI (k * 524288 + (m * 65536 + s)))), some (.int (nI (i))), some (.int (nI (j))), some (.ref 1), some (.int (nI (m))), some (.int (nI (frI m (rR R r) (rC R r) i j))), some (.int (nI (frX m (rR R r) (rC R r) i j))), some (.int (eC (rB R r (16 * k + 4 * frI m (rR R r) (rC R r) i j + frJ m (rR R r) (rC R r) i j))))] d_ru_childOf_84 (Nat.le_of_ble_eq_true rfl) rfl ?_
            refine Ex_aload d_ru_childOf_86 rfl ?_
            refine Ex_iload d_ru_childOf_88 rfl ?_
            refine Ex_iload d_ru_childOf_90 rfl ?_
            refine Ex_pV2 (v := .int (eC (mvT K (rB R r (16 * k + 4 * frI m (rR R r) (rC R r) i j + frJ m (rR R r) (rC R r) i j)) m))) d_ru_childOf_92 pk_ru_childOf_64 (t_1 hs) (ki_movedCell_s (c := some (rB R r (16 * k + 4 * frI m (rR R r) (rC R r) i j + frJ m (rR R r) (rC R r) i j))) hs hK hO hokc hm8) ?_
            refine Ex_iload_n d_ru_childOf_95 rfl ?_
            refine Ex_pS1 (v := .int (J (sg s))) d_ru_childOf_96 pk_ru_childOf_68 (ce_shadeOf_t hk40 hm8 hs6) ?_
            refine Ex_pS2 (v := .int (eC (shT (mvT K (rB R r (16 * k + 4 * frI m (rR R r) (rC R r) i j + frJ m (rR R r) (rC R r) i j)) m) s))) d_ru_childOf_99 pk_ru_childOf_71 (sh_s (mvT_ok hO hokc) hO.1 hs6) ?_
            refine Ex_ireturn d_ru_childOf_102 rfl ?_
            rw [hch]
            exact ⟨rfl, rfl⟩
        · refine Ex_bipush d_ru_childOf_31 bp_m3 ?_
          refine Ex_ireturn d_ru_childOf_33 rfl ?_
          refine ⟨?_, rfl⟩
          show _ = some (Value.int (eW (if m % 2 = 1 ∧ rR R r ≠ rC R r then none else _)))
          rw [if_pos (by omega)]
          rfl
    · exfalso; omega
