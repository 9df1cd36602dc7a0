/-! Kinds: what both sides hold of them, and the small functions on moves and cells. -/
theorem Pu_t {h : mj_H} {c : Prop} [Decidable c] (hc : c) : Pu (.int (bI (decide c))) h (some (.int 1)) h := ⟨by rw [decide_eq_true hc]; rfl, rfl⟩
theorem Pu_f {h : mj_H} {c : Prop} [Decidable c] (hc : ¬ c) : Pu (.int (bI (decide c))) h (some (.int 0)) h := ⟨by rw [decide_eq_false hc]; rfl, rfl⟩
theorem Pu_b {h : mj_H} {c d : Bool} (hc : c = d) : Pu (.int (bI d)) h (some (.int (bI c))) h := ⟨by rw [hc], rfl⟩
theorem Pu_n {h : mj_H} {a b : Nat} (hc : a = b) : Pu (.int (nI b)) h (some (.int (nI a))) h := ⟨by rw [hc], rfl⟩
theorem Pu_z {h : mj_H} {a b : Int} (hc : a = b) : Pu (.int (J b)) h (some (.int (J a))) h := ⟨by rw [hc], rfl⟩
theorem Pu_i {h : mj_H} {a b : Int32} (hc : a = b) : Pu (.int b) h (some (.int a)) h := ⟨by rw [hc], rfl⟩
abbrev SK : Type := Nat × (Nat → Nat) × (Nat → Nat) × (Nat → Nat) × (Nat → Bool) × (Nat → Int64)
def kE (K : SK) : Nat → Nat := K.2.1
def kT (K : SK) : Nat → Nat := K.2.2.1
def kC (K : SK) : Nat → Nat := K.2.2.2.1
def kM (K : SK) : Nat → Bool := K.2.2.2.2.1
def kN (K : SK) : Nat → Int64 := K.2.2.2.2.2
def KM (K : SK) (h : mj_H) : Prop := mI h 38 5 = nI K.1 ∧ ∀ k, k < 40 → mI h 39 k = nI (kE K k) ∧ mI h 40 k = nI (kT K k) ∧ mI h 41 k = nI (kC K k) ∧ mI h 42 k = bI (kM K k) ∧ mL h 43 k = kN K k
def KC (K : SK) (h : mj_H) : Prop := mI h 1 0 = nI K.1 ∧ ∀ k, k < 40 → mI h 2 k = nI (kE K k) ∧ mI h 3 k = nI (kT K k) ∧ mI h 5 k = nI (kC K k) ∧ mI h 4 k = bI (kM K k) ∧ mL h 6 k = kN K k
def KO (K : SK) : Prop := K.1 ≤ 40 ∧ ∀ k, k < K.1 → kE K k < 65536 ∧ (kT K k = 1 ∨ kT K k = 2 ∨ kT K k = 4) ∧ kC K k ≤ 1000
/-- a move as a kind lies in it; one move then another; the colour at an edge -/
def lie (t : Nat) (b : Bool) (m : Nat) : Nat := m % 4 % t + (if b = true then 4 * (m / 4 % 2) else 0)
def kLie (K : SK) (k m : Nat) : Nat := lie (kT K k) (kM K k) m
def thn (a b : Nat) : Nat := (if 4 ≤ b then b + (16 - a) else b + a) % 4 + (if (4 ≤ a) = (4 ≤ b) then 0 else 4)
def was (m e : Nat) : Nat := if 4 ≤ m then (12 - (e + 8 - m % 4) % 4) % 4 else (e + 8 - m) % 4
def kCol (K : SK) (k m e : Nat) : Nat := kE K k / 2 ^ (4 * was m e) % 16
theorem lie_lt {t : Nat} {b : Bool} {m : Nat} (ht : t = 1 ∨ t = 2 ∨ t = 4) : lie t b m < 8 := by
  unfold lie
  have : m % 4 % t < 4 := by rcases ht with rfl | rfl | rfl <;> omega
  split <;> omega
theorem kLie_lt {K : SK} {k m : Nat} (hO : KO K) (hk : k < K.1) : kLie K k m < 8 := lie_lt (hO.2 k hk).2.1
theorem thn_lt (a b : Nat) : thn a b < 8 := by
  unfold thn
  generalize (if 4 ≤ b then b + (16 - a) else b + a) = q
  split <;> omega
theorem was_lt (m e : Nat) : was m e < 4 := by unfold was; split <;> omega
theorem kCol_lt (K : SK) (k m e : Nat) : kCol K k m e < 16 := Nat.mod_lt _ (by omega)
theorem and4 : ∀ m, m < 8 → nI m &&& 4 = nI (4 * (m / 4 % 2)) := by decide
theorem lie_idem : ∀ m, m < 8 → ∀ b : Bool, lie 1 b (lie 1 b m) = lie 1 b m ∧ lie 2 b (lie 2 b m) = lie 2 b m ∧ lie 4 b (lie 4 b m) = lie 4 b m := by decide

theorem rm_isMove_s {S : mj_S} {h : mj_H} {z : Int} (hz : -2147483648 ≤ z ∧ z < 2147483648) : Cl S rm_isMove [.int (J (z))] h (Pu (.int (bI (decide (0 ≤ z ∧ z < 8)))) h) := by
  show Ex S rm_isMove 0 [some (.int (J (z)))] [] h _
  refine Ex_iload_n d_rm_isMove_0 rfl ?_
  refine Ex_if_ltZ (z) 14 d_rm_isMove_1 rfl rfl (by omega) (fun hc1 => ?_) (fun hc1 => ?_)
  · refine Ex_iconst d_rm_isMove_14 ic_0 ?_
    refine Ex_zreturn d_rm_isMove_15 rfl (by decide) ?_
    exact Pu_f (by omega)
  · refine Ex_iload_n d_rm_isMove_4 rfl ?_
    refine Ex_bipush d_rm_isMove_5 bp_8 ?_
    refine Ex_icmp_geZ (z) ((8)) 14 d_rm_isMove_7 rfl rfl (by decide) (by omega) (by omega) (fun hc7 => ?_) (fun hc7 => ?_)
    · refine Ex_iconst d_rm_isMove_14 ic_0 ?_
      refine Ex_zreturn d_rm_isMove_15 rfl (by decide) ?_
      exact Pu_f (by omega)
    · refine Ex_iconst d_rm_isMove_10 ic_1 ?_
      refine Ex_goto 15 d_rm_isMove_11 rfl ?_
      refine Ex_zreturn d_rm_isMove_15 rfl (by decide) ?_
      exact Pu_t (by omega)
theorem to_isMove_s {S : mj_S} {h : mj_H} {z : Int} (hz : -2147483648 ≤ z ∧ z < 2147483648) : Cl S to_isMove [.int (J (z))] h (Pu (.int (bI (decide (0 ≤ z ∧ z < 8)))) h) := by
  show Ex S to_isMove 0 [some (.int (J (z)))] [] h _
  refine Ex_iload_n d_to_isMove_0 rfl ?_
  refine Ex_if_ltZ (z) 14 d_to_isMove_1 rfl rfl (by omega) (fun hc1 => ?_) (fun hc1 => ?_)
  · refine Ex_iconst d_to_isMove_14 ic_0 ?_
    refine Ex_zreturn d_to_isMove_15 rfl (by decide) ?_
    exact Pu_f (by omega)
  · refine Ex_iload_n d_to_isMove_4 rfl ?_
    refine Ex_bipush d_to_isMove_5 bp_8 ?_
    refine Ex_icmp_geZ (z) ((8)) 14 d_to_isMove_7 rfl rfl (by decide) (by omega) (by omega) (fun hc7 => ?_) (fun hc7 => ?_)
    · refine Ex_iconst d_to_isMove_14 ic_0 ?_
      refine Ex_zreturn d_to_isMove_15 rfl (by decide) ?_
      exact Pu_f (by omega)
    · refine Ex_iconst d_to_isMove_10 ic_1 ?_
      refine Ex_goto 15 d_to_isMove_11 rfl ?_
      refine Ex_zreturn d_to_isMove_15 rfl (by decide) ?_
      exact Pu_t (by omega)
theorem rm_isKind_s {S : mj_S} {h : mj_H} (hs : HT h) {K : SK} (hK : KM K h) (hO : KO K) {z : Int} (hz : -2147483648 ≤ z ∧ z < 2147483648) : Cl S rm_isKind [.ref 38, .int (J (z))] h (Pu (.int (bI (decide (0 ≤ z ∧ z < K.1)))) h) := by
  show Ex S rm_isKind 0 [some (.ref 38), some (.int (J (z)))] [] h _
  refine Ex_iload_n d_rm_isKind_0 rfl ?_
  refine Ex_if_ltZ (z) 16 d_rm_isKind_1 rfl rfl (by (have := hO.1; omega)) (fun hc1 => ?_) (fun hc1 => ?_)
  · refine Ex_iconst d_rm_isKind_16 ic_0 ?_
    refine Ex_zreturn d_rm_isKind_17 rfl (by decide) ?_
    exact Pu_f (by omega)
  · refine Ex_iload_n d_rm_isKind_4 rfl ?_
    refine Ex_aload_n d_rm_isKind_5 rfl ?_
    refine Ex_getIE d_rm_isKind_6 pf_rm_128 rfl (t_38 hs) hK.1 ?_
    refine Ex_icmp_geZ (z) (((K.1 : Nat) : Int)) 16 d_rm_isKind_9 rfl rfl (nIJ _) (by (have := hO.1; omega)) (by (have := hO.1; omega)) (fun hc9 => ?_) (fun hc9 => ?_)
    · refine Ex_iconst d_rm_isKind_16 ic_0 ?_
      refine Ex_zreturn d_rm_isKind_17 rfl (by decide) ?_
      exact Pu_f (by omega)
    · refine Ex_iconst d_rm_isKind_12 ic_1 ?_
      refine Ex_goto 17 d_rm_isKind_13 rfl ?_
      refine Ex_zreturn d_rm_isKind_17 rfl (by decide) ?_
      exact Pu_t (by omega)
theorem ki_has_s {S : mj_S} {h : mj_H} (hs : HT h) {K : SK} (hK : KC K h) (hO : KO K) {z : Int} (hz : -2147483648 ≤ z ∧ z < 2147483648) : Cl S ki_has [.ref 1, .int (J (z))] h (Pu (.int (bI (decide (0 ≤ z ∧ z < K.1)))) h) := by
  show Ex S ki_has 0 [some (.ref 1), some (.int (J (z)))] [] h _
  refine Ex_iload_n d_ki_has_0 rfl ?_
  refine Ex_if_ltZ (z) 16 d_ki_has_1 rfl rfl (by (have := hO.1; omega)) (fun hc1 => ?_) (fun hc1 => ?_)
  · refine Ex_iconst d_ki_has_16 ic_0 ?_
    refine Ex_zreturn d_ki_has_17 rfl (by decide) ?_
    exact Pu_f (by omega)
  · refine Ex_iload_n d_ki_has_4 rfl ?_
    refine Ex_aload_n d_ki_has_5 rfl ?_
    refine Ex_getIE d_ki_has_6 pf_ki_36 rfl (t_1 hs) hK.1 ?_
    refine Ex_icmp_geZ (z) (((K.1 : Nat) : Int)) 16 d_ki_has_9 rfl rfl (nIJ _) (by (have := hO.1; omega)) (by (have := hO.1; omega)) (fun hc9 => ?_) (fun hc9 => ?_)
    · refine Ex_iconst d_ki_has_16 ic_0 ?_
      refine Ex_zreturn d_ki_has_17 rfl (by decide) ?_
      exact Pu_f (by omega)
    · refine Ex_iconst d_ki_has_12 ic_1 ?_
      refine Ex_goto 17 d_ki_has_13 rfl ?_
      refine Ex_zreturn d_ki_has_17 rfl (by decide) ?_
      exact Pu_t (by omega)
theorem ki_isFull_s {S : mj_S} {h : mj_H} (hs : HT h) {K : SK} (hK : KC K h) (hO : KO K) : Cl S ki_isFull [.ref 1] h (Pu (.int (bI (decide (40 ≤ K.1)))) h) := by
  show Ex S ki_isFull 0 [some (.ref 1)] [] h _
  refine Ex_aload_n d_ki_isFull_0 rfl ?_
  refine Ex_getIE d_ki_isFull_1 pf_ki_36 rfl (t_1 hs) hK.1 ?_
  refine Ex_bipush d_ki_isFull_4 bp_40 ?_
  refine Ex_icmp_ltN (K.1) (40) 13 d_ki_isFull_6 rfl rfl rfl (by (have := hO.1; omega)) (by (have := hO.1; omega)) (fun hc6 => ?_) (fun hc6 => ?_)
  · refine Ex_iconst d_ki_isFull_13 ic_0 ?_
    refine Ex_zreturn d_ki_isFull_14 rfl (by decide) ?_
    exact Pu_f (by omega)
  · refine Ex_iconst d_ki_isFull_9 ic_1 ?_
    refine Ex_goto 14 d_ki_isFull_10 rfl ?_
    refine Ex_zreturn d_ki_isFull_14 rfl (by decide) ?_
    exact Pu_t (by omega)
theorem rm_lies_s {S : mj_S} {h : mj_H} (hs : HT h) {K : SK} (hK : KM K h) (hO : KO K) {k m : Nat} (hk : k < K.1) (hm : m < 8) : Cl S rm_lies [.ref 38, .int (nI (k)), .int (nI (m))] h (Pu (.int (nI (kLie K k m))) h) := by
  show Ex S rm_lies 0 [some (.ref 38), some (.int (nI (k))), some (.int (nI (m)))] [] h _
  have hk40 : k < 40 := by have := hO.1; omega
  have hT := (hO.2 k hk).2.1
  refine Ex_aload_n d_rm_lies_0 rfl ?_
  refine Ex_getR d_rm_lies_1 pf_rm_19 rfl (t_38 hs) (r_38_3 hs) ?_
  refine Ex_iload_n d_rm_lies_4 rfl ?_
  refine Ex_baloadN (a := k) d_rm_lies_5 (t_42 hs) rfl (by omega) (by decide) (hK.2 (k) (by omega)).2.2.2.1 ?_
  refine Ex_if_eqB (kM K (k)) 15 d_rm_lies_6 rfl rfl (fun hc6 => ?_) (fun hc6 => ?_)
  · refine Ex_iconst d_rm_lies_15 ic_0 ?_
    refine Ex_iload_n d_rm_lies_16 rfl ?_
    refine Ex_iconst d_rm_lies_17 ic_3 ?_
    refine Ex_iand d_rm_lies_18 ?_
    rw [show (((nI (m)) &&& (3 : Int32)) : Int32) = (nI (m % 4)) from nI_3 m]
    refine Ex_aload_n d_rm_lies_19 rfl ?_
    refine Ex_getR d_rm_lies_20 pf_rm_13 rfl (t_38 hs) (r_38_1 hs) ?_
    refine Ex_iload_n d_rm_lies_23 rfl ?_
    refine Ex_ialoadN (a := k) d_rm_lies_24 (t_40 hs) rfl (by omega) (by decide) (hK.2 (k) (by omega)).2.1 ?_
    refine Ex_iremN (m % 4) (kT K (k)) d_rm_lies_25 rfl rfl (by omega) (by omega) ?_
    refine Ex_iaddN (0) ((m % 4) % (kT K (k))) d_rm_lies_26 rfl rfl ?_
    refine Ex_ireturn d_rm_lies_27 rfl ?_
    exact Pu_n (by unfold kLie lie; simp [*]; try omega)
  · refine Ex_iload_n d_rm_lies_9 rfl ?_
    refine Ex_iconst d_rm_lies_10 ic_4 ?_
    refine Ex_iand d_rm_lies_11 ?_
    rw [show (((nI (m)) &&& (4 : Int32)) : Int32) = (nI (4 * (m / 4 % 2))) from and4 m hm]
    refine Ex_goto 16 d_rm_lies_12 rfl ?_
    refine Ex_iload_n d_rm_lies_16 rfl ?_
    refine Ex_iconst d_rm_lies_17 ic_3 ?_
    refine Ex_iand d_rm_lies_18 ?_
    rw [show (((nI (m)) &&& (3 : Int32)) : Int32) = (nI (m % 4)) from nI_3 m]
    refine Ex_aload_n d_rm_lies_19 rfl ?_
    refine Ex_getR d_rm_lies_20 pf_rm_13 rfl (t_38 hs) (r_38_1 hs) ?_
    refine Ex_iload_n d_rm_lies_23 rfl ?_
    refine Ex_ialoadN (a := k) d_rm_lies_24 (t_40 hs) rfl (by omega) (by decide) (hK.2 (k) (by omega)).2.1 ?_
    refine Ex_iremN (m % 4) (kT K (k)) d_rm_lies_25 rfl rfl (by omega) (by omega) ?_
    refine Ex_iaddN (4 * (m / 4 % 2)) ((m % 4) % (kT K (k))) d_rm_lies_26 rfl rfl ?_
    refine Ex_ireturn d_rm_lies_27 rfl ?_
    exact Pu_n (by unfold kLie lie; simp [*]; try omega)
theorem tm1 : ∀ a, a < 8 → ∀ b, b < 8 → nI b &&& 4 = 0 → (((nI a ^^^ nI b) &&& 4) ||| (nI (b + a) &&& 3)) = nI (thn a b) := by decide +kernel
theorem tm2 : ∀ a, a < 8 → ∀ b, b < 8 → ¬ nI b &&& 4 = 0 → (((nI a ^^^ nI b) &&& 4) ||| ((nI b + -(nI a)) &&& 3)) = nI (thn a b) := by decide +kernel
theorem tc1 : ∀ a, a < 8 → ∀ b, b < 8 → 4 ≤ b → (nI b - nI a) &&& 3 = nI ((b + (16 - a)) % 4) := by decide +kernel
theorem sub3 : ∀ m, m < 8 → ∀ e, e < 4 → (nI e - nI m) &&& 3 = nI ((e + 8 - m) % 4) := by decide +kernel
theorem sub4 : ∀ w, w < 4 → (4 - nI w) &&& 3 = nI ((4 - w) % 4) := by decide +kernel
theorem and_t : ∀ m, m < 8 → ∀ t, t = 1 ∨ t = 2 ∨ t = 4 → nI (m % 4) &&& nI (t - 1) = nI (m % 4 % t) := by
  intro m hm t ht
  rcases ht with rfl | rfl | rfl <;> revert m <;> decide
theorem was1 : ∀ m, m < 8 → ∀ e, e < 4 → 4 ≤ m → (e + 8 - m) % 4 % 2 = 1 → 4 - (e + 8 - m) % 4 = was m e := by decide +kernel
theorem was2 : ∀ m, m < 8 → ∀ e, e < 4 → ¬ (e + 8 - m) % 4 % 2 = 1 → (e + 8 - m) % 4 = was m e := by decide +kernel
theorem was3 : ∀ m, m < 8 → ∀ e, e < 4 → m < 4 → (e + 8 - m) % 4 = was m e := by decide +kernel
theorem was4 : ∀ m, m < 8 → ∀ e, e < 4 → 4 ≤ m → (4 - (e + 8 - m) % 4) % 4 = was m e := by decide +kernel
theorem tile_or {k m s : Nat} (hm : m < 8) (hs : s < 65536) : nI (k * 2 ^ 19 + m * 2 ^ 16) ||| nI s = nI (k * 524288 + (m * 65536 + s)) := by
  rw [show k * 2 ^ 19 + m * 2 ^ 16 = (k * 8 + m) * 2 ^ 16 by omega, nI_orA (by omega)]
  refine congrArg nI ?_
  omega
theorem rm_thenMove_s {S : mj_S} {h : mj_H} {a b : Nat} (ha : a < 8) (hb : b < 8) : Cl S rm_thenMove [.int (nI (a)), .int (nI (b))] h (Pu (.int (nI (thn a b))) h) := by
  show Ex S rm_thenMove 0 [some (.int (nI (a))), some (.int (nI (b)))] [] h _
  refine Ex_iload_n d_rm_thenMove_0 rfl ?_
  refine Ex_iload_n d_rm_thenMove_1 rfl ?_
  refine Ex_ixor d_rm_thenMove_2 ?_
  refine Ex_iconst d_rm_thenMove_3 ic_4 ?_
  refine Ex_iand d_rm_thenMove_4 ?_
  refine Ex_iload_n d_rm_thenMove_5 rfl ?_
  refine Ex_iload_n d_rm_thenMove_6 rfl ?_
  refine Ex_iconst d_rm_thenMove_7 ic_4 ?_
  refine Ex_iand d_rm_thenMove_8 ?_
  refine Ex_if_ne 16 d_rm_thenMove_9 rfl (fun hc9 => ?_) (fun hc9 => ?_)
  · refine Ex_iload_n d_rm_thenMove_16 rfl ?_
    refine Ex_ineg d_rm_thenMove_17 ?_
    refine Ex_iadd d_rm_thenMove_18 ?_
    refine Ex_iconst d_rm_thenMove_19 ic_3 ?_
    refine Ex_iand d_rm_thenMove_20 ?_
    refine Ex_ior d_rm_thenMove_21 ?_
    refine Ex_ireturn d_rm_thenMove_22 rfl ?_
    exact Pu_i (tm2 a ha b hb (by assumption))
  · refine Ex_iload_n d_rm_thenMove_12 rfl ?_
    refine Ex_goto 18 d_rm_thenMove_13 rfl ?_
    refine Ex_iaddN (b) (a) d_rm_thenMove_18 rfl rfl ?_
    refine Ex_iconst d_rm_thenMove_19 ic_3 ?_
    refine Ex_iand d_rm_thenMove_20 ?_
    refine Ex_ior d_rm_thenMove_21 ?_
    refine Ex_ireturn d_rm_thenMove_22 rfl ?_
    exact Pu_i (tm1 a ha b hb (by assumption))
theorem ki_chained_s {S : mj_S} {h : mj_H} {a b : Nat} (ha : a < 8) (hb : b < 8) : Cl S ki_chained [.int (nI (a)), .int (nI (b))] h (Pu (.int (nI (thn a b))) h) := by
  show Ex S ki_chained 0 [some (.int (nI (a))), some (.int (nI (b))), none] [] h _
  refine Ex_iload_n d_ki_chained_0 rfl ?_
  refine Ex_iconst d_ki_chained_1 ic_4 ?_
  refine Ex_icmp_ltN (b) (4) 11 d_ki_chained_2 rfl rfl rfl (by omega) (by omega) (fun hc2 => ?_) (fun hc2 => ?_)
  · refine Ex_iload_n d_ki_chained_11 rfl ?_
    refine Ex_iload_n d_ki_chained_12 rfl ?_
    refine Ex_iaddN (b) (a) d_ki_chained_13 rfl rfl ?_
    refine Ex_istore_n [some (.int (nI (a))), some (.int (nI (b))), some (.int (nI (b + a)))] d_ki_chained_14 (Nat.le_of_ble_eq_true rfl) rfl ?_
    refine Ex_iload_n d_ki_chained_15 rfl ?_
    refine Ex_iconst d_ki_chained_16 ic_3 ?_
    refine Ex_iand d_ki_chained_17 ?_
    rw [show (((nI (b + a)) &&& (3 : Int32)) : Int32) = (nI ((b + a) % 4)) from nI_3 _]
    refine Ex_iload_n d_ki_chained_18 rfl ?_
    refine Ex_iconst d_ki_chained_19 ic_4 ?_
    refine Ex_icmp_ltN (a) (4) 27 d_ki_chained_20 rfl rfl rfl (by omega) (by omega) (fun hc20 => ?_) (fun hc20 => ?_)
    · refine Ex_iconst d_ki_chained_27 ic_0 ?_
      refine Ex_iload_n d_ki_chained_28 rfl ?_
      refine Ex_iconst d_ki_chained_29 ic_4 ?_
      refine Ex_icmp_ltN (b) (4) 37 d_ki_chained_30 rfl rfl rfl (by omega) (by omega) (fun hc30 => ?_) (fun hc30 => ?_)
      · refine Ex_iconst d_ki_chained_37 ic_0 ?_
        refine Ex_icmp_neN (0) (0) 45 d_ki_chained_38 rfl rfl rfl (by omega) (by omega) (fun hc38 => ?_) (fun hc38 => ?_)
        · exact absurd hc38 (by decide)
        · refine Ex_iconst d_ki_chained_41 ic_0 ?_
          refine Ex_goto 46 d_ki_chained_42 rfl ?_
          refine Ex_iaddN ((b + a) % 4) (0) d_ki_chained_46 rfl rfl ?_
          refine Ex_ireturn d_ki_chained_47 rfl ?_
          exact Pu_n (by unfold thn; first | (rw [if_pos (by omega), if_pos (by simp only [eq_iff_iff]; omega)]; done) | (rw [if_neg (by omega), if_pos (by simp only [eq_iff_iff]; omega)]; done) | (rw [if_pos (by omega), if_neg (by simp only [eq_iff_iff]; omega)]; done) | (rw [if_neg (by omega), if_neg (by simp only [eq_iff_iff]; omega)]; done))
      · refine Ex_iconst d_ki_chained_33 ic_1 ?_
        refine Ex_goto 38 d_ki_chained_34 rfl ?_
        refine Ex_icmp_neN (0) (1) 45 d_ki_chained_38 rfl rfl rfl (by omega) (by omega) (fun hc38 => ?_) (fun hc38 => ?_)
        · refine Ex_iconst d_ki_chained_45 ic_4 ?_
          refine Ex_iaddN ((b + a) % 4) (4) d_ki_chained_46 rfl rfl ?_
          refine Ex_ireturn d_ki_chained_47 rfl ?_
          exact Pu_n (by unfold thn; first | (rw [if_pos (by omega), if_pos (by simp only [eq_iff_iff]; omega)]; done) | (rw [if_neg (by omega), if_pos (by simp only [eq_iff_iff]; omega)]; done) | (rw [if_pos (by omega), if_neg (by simp only [eq_iff_iff]; omega)]; done) | (rw [if_neg (by omega), if_neg (by simp only [eq_iff_iff]; omega)]; done))
        · exact absurd hc38 (by decide)
    · refine Ex_iconst d_ki_chained_23 ic_1 ?_
      refine Ex_goto 28 d_ki_chained_24 rfl ?_
      refine Ex_iload_n d_ki_chained_28 rfl ?_
      refine Ex_iconst d_ki_chained_29 ic_4 ?_
      refine Ex_icmp_ltN (b) (4) 37 d_ki_chained_30 rfl rfl rfl (by omega) (by omega) (fun hc30 => ?_) (fun hc30 => ?_)
      · refine Ex_iconst d_ki_chained_37 ic_0 ?_
        refine Ex_icmp_neN (1) (0) 45 d_ki_chained_38 rfl rfl rfl (by omega) (by omega) (fun hc38 => ?_) (fun hc38 => ?_)
        · refine Ex_iconst d_ki_chained_45 ic_4 ?_
          refine Ex_iaddN ((b + a) % 4) (4) d_ki_chained_46 rfl rfl ?_
          refine Ex_ireturn d_ki_chained_47 rfl ?_
          exact Pu_n (by unfold thn; first | (rw [if_pos (by omega), if_pos (by simp only [eq_iff_iff]; omega)]; done) | (rw [if_neg (by omega), if_pos (by simp only [eq_iff_iff]; omega)]; done) | (rw [if_pos (by omega), if_neg (by simp only [eq_iff_iff]; omega)]; done) | (rw [if_neg (by omega), if_neg (by simp only [eq_iff_iff]; omega)]; done))
        · exact absurd hc38 (by decide)
      · refine Ex_iconst d_ki_chained_33 ic_1 ?_
        refine Ex_goto 38 d_ki_chained_34 rfl ?_
        refine Ex_icmp_neN (1) (1) 45 d_ki_chained_38 rfl rfl rfl (by omega) (by omega) (fun hc38 => ?_) (fun hc38 => ?_)
        · exact absurd hc38 (by decide)
        · refine Ex_iconst d_ki_chained_41 ic_0 ?_
          refine Ex_goto 46 d_ki_chained_42 rfl ?_
          refine Ex_iaddN ((b + a) % 4) (0) d_ki_chained_46 rfl rfl ?_
          refine Ex_ireturn d_ki_chained_47 rfl ?_
          exact Pu_n (by unfold thn; first | (rw [if_pos (by omega), if_pos (by simp only [eq_iff_iff]; omega)]; done) | (rw [if_neg (by omega), if_pos (by simp only [eq_iff_iff]; omega)]; done) | (rw [if_pos (by omega), if_neg (by simp only [eq_iff_iff]; omega)]; done) | (rw [if_neg (by omega), if_neg (by simp only [eq_iff_iff]; omega)]; done))
  · refine Ex_iload_n d_ki_chained_5 rfl ?_
    refine Ex_iload_n d_ki_chained_6 rfl ?_
    refine Ex_isub d_ki_chained_7 ?_
    refine Ex_goto 14 d_ki_chained_8 rfl ?_
    refine Ex_istore_n [some (.int (nI (a))), some (.int (nI (b))), some (.int ((nI (b)) - (nI (a))))] d_ki_chained_14 (Nat.le_of_ble_eq_true rfl) rfl ?_
    refine Ex_iload_n d_ki_chained_15 rfl ?_
    refine Ex_iconst d_ki_chained_16 ic_3 ?_
    refine Ex_iand d_ki_chained_17 ?_
    rw [show ((((nI (b)) - (nI (a))) &&& (3 : Int32)) : Int32) = (nI ((b + (16 - a)) % 4)) from tc1 a ha b hb (by assumption)]
    refine Ex_iload_n d_ki_chained_18 rfl ?_
    refine Ex_iconst d_ki_chained_19 ic_4 ?_
    refine Ex_icmp_ltN (a) (4) 27 d_ki_chained_20 rfl rfl rfl (by omega) (by omega) (fun hc20 => ?_) (fun hc20 => ?_)
    · refine Ex_iconst d_ki_chained_27 ic_0 ?_
      refine Ex_iload_n d_ki_chained_28 rfl ?_
      refine Ex_iconst d_ki_chained_29 ic_4 ?_
      refine Ex_icmp_ltN (b) (4) 37 d_ki_chained_30 rfl rfl rfl (by omega) (by omega) (fun hc30 => ?_) (fun hc30 => ?_)
      · refine Ex_iconst d_ki_chained_37 ic_0 ?_
        refine Ex_icmp_neN (0) (0) 45 d_ki_chained_38 rfl rfl rfl (by omega) (by omega) (fun hc38 => ?_) (fun hc38 => ?_)
        · exact absurd hc38 (by decide)
        · refine Ex_iconst d_ki_chained_41 ic_0 ?_
          refine Ex_goto 46 d_ki_chained_42 rfl ?_
          refine Ex_iaddN ((b + (16 - a)) % 4) (0) d_ki_chained_46 rfl rfl ?_
          refine Ex_ireturn d_ki_chained_47 rfl ?_
          exact Pu_n (by unfold thn; first | (rw [if_pos (by omega), if_pos (by simp only [eq_iff_iff]; omega)]; done) | (rw [if_neg (by omega), if_pos (by simp only [eq_iff_iff]; omega)]; done) | (rw [if_pos (by omega), if_neg (by simp only [eq_iff_iff]; omega)]; done) | (rw [if_neg (by omega), if_neg (by simp only [eq_iff_iff]; omega)]; done))
      · refine Ex_iconst d_ki_chained_33 ic_1 ?_
        refine Ex_goto 38 d_ki_chained_34 rfl ?_
        refine Ex_icmp_neN (0) (1) 45 d_ki_chained_38 rfl rfl rfl (by omega) (by omega) (fun hc38 => ?_) (fun hc38 => ?_)
        · refine Ex_iconst d_ki_chained_45 ic_4 ?_
          refine Ex_iaddN ((b + (16 - a)) % 4) (4) d_ki_chained_46 rfl rfl ?_
          refine Ex_ireturn d_ki_chained_47 rfl ?_
          exact Pu_n (by unfold thn; first | (rw [if_pos (by omega), if_pos (by simp only [eq_iff_iff]; omega)]; done) | (rw [if_neg (by omega), if_pos (by simp only [eq_iff_iff]; omega)]; done) | (rw [if_pos (by omega), if_neg (by simp only [eq_iff_iff]; omega)]; done) | (rw [if_neg (by omega), if_neg (by simp only [eq_iff_iff]; omega)]; done))
        · exact absurd hc38 (by decide)
    · refine Ex_iconst d_ki_chained_23 ic_1 ?_
      refine Ex_goto 28 d_ki_chained_24 rfl ?_
      refine Ex_iload_n d_ki_chained_28 rfl ?_
      refine Ex_iconst d_ki_chained_29 ic_4 ?_
      refine Ex_icmp_ltN (b) (4) 37 d_ki_chained_30 rfl rfl rfl (by omega) (by omega) (fun hc30 => ?_) (fun hc30 => ?_)
      · refine Ex_iconst d_ki_chained_37 ic_0 ?_
        refine Ex_icmp_neN (1) (0) 45 d_ki_chained_38 rfl rfl rfl (by omega) (by omega) (fun hc38 => ?_) (fun hc38 => ?_)
        · refine Ex_iconst d_ki_chained_45 ic_4 ?_
          refine Ex_iaddN ((b + (16 - a)) % 4) (4) d_ki_chained_46 rfl rfl ?_
          refine Ex_ireturn d_ki_chained_47 rfl ?_
          exact Pu_n (by unfold thn; first | (rw [if_pos (by omega), if_pos (by simp only [eq_iff_iff]; omega)]; done) | (rw [if_neg (by omega), if_pos (by simp only [eq_iff_iff]; omega)]; done) | (rw [if_pos (by omega), if_neg (by simp only [eq_iff_iff]; omega)]; done) | (rw [if_neg (by omega), if_neg (by simp only [eq_iff_iff]; omega)]; done))
        · exact absurd hc38 (by decide)
      · refine Ex_iconst d_ki_chained_33 ic_1 ?_
        refine Ex_goto 38 d_ki_chained_34 rfl ?_
        refine Ex_icmp_neN (1) (1) 45 d_ki_chained_38 rfl rfl rfl (by omega) (by omega) (fun hc38 => ?_) (fun hc38 => ?_)
        · exact absurd hc38 (by decide)
        · refine Ex_iconst d_ki_chained_41 ic_0 ?_
          refine Ex_goto 46 d_ki_chained_42 rfl ?_
          refine Ex_iaddN ((b + (16 - a)) % 4) (0) d_ki_chained_46 rfl rfl ?_
          refine Ex_ireturn d_ki_chained_47 rfl ?_
          exact Pu_n (by unfold thn; first | (rw [if_pos (by omega), if_pos (by simp only [eq_iff_iff]; omega)]; done) | (rw [if_neg (by omega), if_pos (by simp only [eq_iff_iff]; omega)]; done) | (rw [if_pos (by omega), if_neg (by simp only [eq_iff_iff]; omega)]; done) | (rw [if_neg (by omega), if_neg (by simp only [eq_iff_iff]; omega)]; done))
theorem ki_lies_s {S : mj_S} {h : mj_H} (hs : HT h) {K : SK} (hK : KC K h) (hO : KO K) {k m : Nat} (hk : k < K.1) (hm : m < 8) : Cl S ki_lies [.ref 1, .int (nI (k)), .int (nI (m))] h (Pu (.int (nI (kLie K k m))) h) := by
  show Ex S ki_lies 0 [some (.ref 1), some (.int (nI (k))), some (.int (nI (m)))] [] h _
  have hn40 := hO.1
  have hk40 : k < 40 := by omega
  have hT := (hO.2 k hk).2.1
  refine Ex_iload_n d_ki_lies_0 rfl ?_
  refine Ex_if_ltN (k) 12 d_ki_lies_1 rfl rfl (by omega) (fun hc1 => ?_) (fun hc1 => ?_)
  · refine Ex_iconst d_ki_lies_12 ic_0 ?_
    refine Ex_ireturn d_ki_lies_13 rfl ?_
    first | (exfalso; omega) | exact Pu_n (by unfold kLie lie; simp [*]; try omega)
  · refine Ex_iload_n d_ki_lies_4 rfl ?_
    refine Ex_aload_n d_ki_lies_5 rfl ?_
    refine Ex_getIE d_ki_lies_6 pf_ki_36 rfl (t_1 hs) hK.1 ?_
    refine Ex_icmp_ltN (k) (K.1) 14 d_ki_lies_9 rfl rfl rfl (by omega) (by omega) (fun hc9 => ?_) (fun hc9 => ?_)
    · refine Ex_iload_n d_ki_lies_14 rfl ?_
      refine Ex_iconst d_ki_lies_15 ic_3 ?_
      refine Ex_iand d_ki_lies_16 ?_
      rw [show (((nI (m)) &&& (3 : Int32)) : Int32) = (nI (m % 4)) from nI_3 m]
      refine Ex_aload_n d_ki_lies_17 rfl ?_
      refine Ex_getR d_ki_lies_18 pf_ki_15 rfl (t_1 hs) (r_1_2 hs) ?_
      refine Ex_iload_n d_ki_lies_21 rfl ?_
      refine Ex_ialoadN (a := k) d_ki_lies_22 (t_3 hs) rfl (by omega) (by decide) (hK.2 (k) (by omega)).2.1 ?_
      refine Ex_iconst d_ki_lies_23 ic_1 ?_
      refine Ex_isubN (kT K (k)) (1) d_ki_lies_24 rfl rfl (by omega) ?_
      refine Ex_iand d_ki_lies_25 ?_
      rw [show (((nI (m % 4)) &&& (nI ((kT K (k)) - 1))) : Int32) = (nI (m % 4 % kT K k)) from and_t m hm _ hT]
      refine Ex_iload_n d_ki_lies_26 rfl ?_
      refine Ex_iconst d_ki_lies_27 ic_4 ?_
      refine Ex_icmp_ltN (m) (4) 44 d_ki_lies_28 rfl rfl rfl (by omega) (by omega) (fun hc28 => ?_) (fun hc28 => ?_)
      · refine Ex_iconst d_ki_lies_44 ic_0 ?_
        refine Ex_iaddN (m % 4 % kT K k) (0) d_ki_lies_45 rfl rfl ?_
        refine Ex_ireturn d_ki_lies_46 rfl ?_
        first | (exfalso; omega) | exact Pu_n (by unfold kLie lie; simp [*]; try omega)
      · refine Ex_aload_n d_ki_lies_31 rfl ?_
        refine Ex_getR d_ki_lies_32 pf_ki_18 rfl (t_1 hs) (r_1_3 hs) ?_
        refine Ex_iload_n d_ki_lies_35 rfl ?_
        refine Ex_baloadN (a := k) d_ki_lies_36 (t_4 hs) rfl (by omega) (by decide) (hK.2 (k) (by omega)).2.2.2.1 ?_
        refine Ex_if_eqB (kM K (k)) 44 d_ki_lies_37 rfl rfl (fun hc37 => ?_) (fun hc37 => ?_)
        · refine Ex_iconst d_ki_lies_44 ic_0 ?_
          refine Ex_iaddN (m % 4 % kT K k) (0) d_ki_lies_45 rfl rfl ?_
          refine Ex_ireturn d_ki_lies_46 rfl ?_
          first | (exfalso; omega) | exact Pu_n (by unfold kLie lie; simp [*]; try omega)
        · refine Ex_iconst d_ki_lies_40 ic_4 ?_
          refine Ex_goto 45 d_ki_lies_41 rfl ?_
          refine Ex_iaddN (m % 4 % kT K k) (4) d_ki_lies_45 rfl rfl ?_
          refine Ex_ireturn d_ki_lies_46 rfl ?_
          first | (exfalso; omega) | exact Pu_n (by unfold kLie lie; simp [*]; try omega)
    · refine Ex_iconst d_ki_lies_12 ic_0 ?_
      refine Ex_ireturn d_ki_lies_13 rfl ?_
      first | (exfalso; omega) | exact Pu_n (by unfold kLie lie; simp [*]; try omega)
theorem ki_costOf_s {S : mj_S} {h : mj_H} (hs : HT h) {K : SK} (hK : KC K h) (hO : KO K) {k : Nat} (hk : k < K.1) : Cl S ki_costOf [.ref 1, .int (nI (k))] h (Pu (.int (nI (kC K k))) h) := by
  show Ex S ki_costOf 0 [some (.ref 1), some (.int (nI (k)))] [] h _
  have hn40 := hO.1
  have hk40 : k < 40 := by omega
  refine Ex_iload_n d_ki_costOf_0 rfl ?_
  refine Ex_if_ltN (k) 21 d_ki_costOf_1 rfl rfl (by omega) (fun hc1 => ?_) (fun hc1 => ?_)
  · exfalso; omega
  · refine Ex_iload_n d_ki_costOf_4 rfl ?_
    refine Ex_aload_n d_ki_costOf_5 rfl ?_
    refine Ex_getIE d_ki_costOf_6 pf_ki_36 rfl (t_1 hs) hK.1 ?_
    refine Ex_icmp_geN (k) (K.1) 21 d_ki_costOf_9 rfl rfl rfl (by omega) (by omega) (fun hc9 => ?_) (fun hc9 => ?_)
    · exfalso; omega
    · refine Ex_aload_n d_ki_costOf_12 rfl ?_
      refine Ex_getR d_ki_costOf_13 pf_ki_22 rfl (t_1 hs) (r_1_4 hs) ?_
      refine Ex_iload_n d_ki_costOf_16 rfl ?_
      refine Ex_ialoadN (a := k) d_ki_costOf_17 (t_5 hs) rfl (by omega) (by decide) (hK.2 (k) (by omega)).2.2.1 ?_
      refine Ex_goto 22 d_ki_costOf_18 rfl ?_
      refine Ex_ireturn d_ki_costOf_22 rfl ?_
      exact Pu_n rfl
theorem rm_colour_s {S : mj_S} {h : mj_H} (hs : HT h) {K : SK} (hK : KM K h) (hO : KO K) {k m e : Nat} (hk : k < K.1) (hm : m < 8) (he : e < 4) : Cl S rm_colour [.ref 38, .int (nI (k)), .int (nI (m)), .int (nI (e))] h (Pu (.int (nI (kCol K k m e))) h) := by
  show Ex S rm_colour 0 [some (.ref 38), some (.int (nI (k))), some (.int (nI (m))), some (.int (nI (e))), none] [] h _
  have hn40 := hO.1
  have hk40 : k < 40 := by omega
  have hE := (hO.2 k hk).1
  refine Ex_iload_n d_rm_colour_0 rfl ?_
  refine Ex_iload_n d_rm_colour_1 rfl ?_
  refine Ex_isub d_rm_colour_2 ?_
  refine Ex_iconst d_rm_colour_3 ic_3 ?_
  refine Ex_iand d_rm_colour_4 ?_
  rw [show ((((nI (e)) - (nI (m))) &&& (3 : Int32)) : Int32) = (nI ((e + 8 - m) % 4)) from sub3 m hm e he]
  refine Ex_istore [some (.ref 38), some (.int (nI (k))), some (.int (nI (m))), some (.int (nI (e))), some (.int (nI ((e + 8 - m) % 4)))] d_rm_colour_5 (Nat.le_of_ble_eq_true rfl) rfl ?_
  refine Ex_iload_n d_rm_colour_7 rfl ?_
  refine Ex_iconst d_rm_colour_8 ic_4 ?_
  refine Ex_iand d_rm_colour_9 ?_
  rw [show (((nI (m)) &&& (4 : Int32)) : Int32) = (nI (4 * (m / 4 % 2))) from and4 m hm]
  refine Ex_if_eqN (4 * (m / 4 % 2)) 27 d_rm_colour_10 rfl rfl (by omega) (fun hc10 => ?_) (fun hc10 => ?_)
  · refine Ex_aload_n d_rm_colour_27 rfl ?_
    refine Ex_getR d_rm_colour_28 pf_rm_7 rfl (t_38 hs) (r_38_0 hs) ?_
    refine Ex_iload_n d_rm_colour_31 rfl ?_
    refine Ex_ialoadN (a := k) d_rm_colour_32 (t_39 hs) rfl (by omega) (by decide) (hK.2 (k) (by omega)).1 ?_
    refine Ex_iconst d_rm_colour_33 ic_4 ?_
    refine Ex_iload d_rm_colour_34 rfl ?_
    refine Ex_imulN (4) ((e + 8 - m) % 4) d_rm_colour_36 rfl rfl ?_
    refine Ex_ishr d_rm_colour_37 ?_
    rw [show (((nI (kE K (k))) >>> ((nI (4 * ((e + 8 - m) % 4))) &&& 31)) : Int32) = (nI (kE K k / 2 ^ (4 * ((e + 8 - m) % 4)))) from nI_shr (by omega) (by omega)]
    refine Ex_bipush d_rm_colour_38 bp_15 ?_
    refine Ex_iand d_rm_colour_40 ?_
    rw [show (((nI (kE K k / 2 ^ (4 * ((e + 8 - m) % 4)))) &&& (15 : Int32)) : Int32) = (nI ((kE K k / 2 ^ (4 * ((e + 8 - m) % 4))) % 16)) from nI_15 _]
    refine Ex_ireturn d_rm_colour_41 rfl ?_
    first | (exfalso; omega) | exact Pu_n (by unfold kCol; first | rw [was1 m hm e he (by omega) (by omega)] | rw [was2 m hm e he (by omega)] | rw [was3 m hm e he (by omega)] | rw [was4 m hm e he (by omega)])
  · refine Ex_iload d_rm_colour_13 rfl ?_
    refine Ex_iconst d_rm_colour_15 ic_1 ?_
    refine Ex_iand d_rm_colour_16 ?_
    rw [show (((nI ((e + 8 - m) % 4)) &&& (1 : Int32)) : Int32) = (nI ((e + 8 - m) % 4 % 2)) from nI_1m _]
    refine Ex_iconst d_rm_colour_17 ic_1 ?_
    refine Ex_icmp_neN ((e + 8 - m) % 4 % 2) (1) 27 d_rm_colour_18 rfl rfl rfl (by omega) (by omega) (fun hc18 => ?_) (fun hc18 => ?_)
    · refine Ex_aload_n d_rm_colour_27 rfl ?_
      refine Ex_getR d_rm_colour_28 pf_rm_7 rfl (t_38 hs) (r_38_0 hs) ?_
      refine Ex_iload_n d_rm_colour_31 rfl ?_
      refine Ex_ialoadN (a := k) d_rm_colour_32 (t_39 hs) rfl (by omega) (by decide) (hK.2 (k) (by omega)).1 ?_
      refine Ex_iconst d_rm_colour_33 ic_4 ?_
      refine Ex_iload d_rm_colour_34 rfl ?_
      refine Ex_imulN (4) ((e + 8 - m) % 4) d_rm_colour_36 rfl rfl ?_
      refine Ex_ishr d_rm_colour_37 ?_
      rw [show (((nI (kE K (k))) >>> ((nI (4 * ((e + 8 - m) % 4))) &&& 31)) : Int32) = (nI (kE K k / 2 ^ (4 * ((e + 8 - m) % 4)))) from nI_shr (by omega) (by omega)]
      refine Ex_bipush d_rm_colour_38 bp_15 ?_
      refine Ex_iand d_rm_colour_40 ?_
      rw [show (((nI (kE K k / 2 ^ (4 * ((e + 8 - m) % 4)))) &&& (15 : Int32)) : Int32) = (nI ((kE K k / 2 ^ (4 * ((e + 8 - m) % 4))) % 16)) from nI_15 _]
      refine Ex_ireturn d_rm_colour_41 rfl ?_
      first | (exfalso; omega) | exact Pu_n (by unfold kCol; first | rw [was1 m hm e he (by omega) (by omega)] | rw [was2 m hm e he (by omega)] | rw [was3 m hm e he (by omega)] | rw [was4 m hm e he (by omega)])
    · refine Ex_iconst d_rm_colour_21 ic_4 ?_
      refine Ex_iload d_rm_colour_22 rfl ?_
      refine Ex_isubN (4) ((e + 8 - m) % 4) d_rm_colour_24 rfl rfl (by omega) ?_
      refine Ex_istore [some (.ref 38), some (.int (nI (k))), some (.int (nI (m))), some (.int (nI (e))), some (.int (nI (4 - ((e + 8 - m) % 4))))] d_rm_colour_25 (Nat.le_of_ble_eq_true rfl) rfl ?_
      refine Ex_aload_n d_rm_colour_27 rfl ?_
      refine Ex_getR d_rm_colour_28 pf_rm_7 rfl (t_38 hs) (r_38_0 hs) ?_
      refine Ex_iload_n d_rm_colour_31 rfl ?_
      refine Ex_ialoadN (a := k) d_rm_colour_32 (t_39 hs) rfl (by omega) (by decide) (hK.2 (k) (by omega)).1 ?_
      refine Ex_iconst d_rm_colour_33 ic_4 ?_
      refine Ex_iload d_rm_colour_34 rfl ?_
      refine Ex_imulN (4) (4 - ((e + 8 - m) % 4)) d_rm_colour_36 rfl rfl ?_
      refine Ex_ishr d_rm_colour_37 ?_
      rw [show (((nI (kE K (k))) >>> ((nI (4 * (4 - ((e + 8 - m) % 4)))) &&& 31)) : Int32) = (nI (kE K k / 2 ^ (4 * (4 - ((e + 8 - m) % 4))))) from nI_shr (by omega) (by omega)]
      refine Ex_bipush d_rm_colour_38 bp_15 ?_
      refine Ex_iand d_rm_colour_40 ?_
      rw [show (((nI (kE K k / 2 ^ (4 * (4 - ((e + 8 - m) % 4))))) &&& (15 : Int32)) : Int32) = (nI ((kE K k / 2 ^ (4 * (4 - ((e + 8 - m) % 4)))) % 16)) from nI_15 _]
      refine Ex_ireturn d_rm_colour_41 rfl ?_
      first | (exfalso; omega) | exact Pu_n (by unfold kCol; first | rw [was1 m hm e he (by omega) (by omega)] | rw [was2 m hm e he (by omega)] | rw [was3 m hm e he (by omega)] | rw [was4 m hm e he (by omega)])
theorem ki_colour_s {S : mj_S} {h : mj_H} (hs : HT h) {K : SK} (hK : KC K h) (hO : KO K) {k m e : Nat} (hk : k < K.1) (hm : m < 8) (he : e < 4) : Cl S ki_colour [.ref 1, .int (nI (k)), .int (nI (m)), .int (nI (e))] h (Pu (.int (nI (kCol K k m e))) h) := by
  show Ex S ki_colour 0 [some (.ref 1), some (.int (nI (k))), some (.int (nI (m))), some (.int (nI (e))), none, none] [] h _
  have hn40 := hO.1
  have hk40 : k < 40 := by omega
  have hE := (hO.2 k hk).1
  refine Ex_iload_n d_ki_colour_0 rfl ?_
  refine Ex_if_ltN (k) 12 d_ki_colour_1 rfl rfl (by omega) (fun hc1 => ?_) (fun hc1 => ?_)
  · refine Ex_iconst d_ki_colour_12 ic_0 ?_
    refine Ex_ireturn d_ki_colour_13 rfl ?_
    first | (exfalso; omega) | exact Pu_n (by unfold kCol; first | rw [was1 m hm e he (by omega) (by omega)] | rw [was2 m hm e he (by omega)] | rw [was3 m hm e he (by omega)] | rw [was4 m hm e he (by omega)])
  · refine Ex_iload_n d_ki_colour_4 rfl ?_
    refine Ex_aload_n d_ki_colour_5 rfl ?_
    refine Ex_getIE d_ki_colour_6 pf_ki_36 rfl (t_1 hs) hK.1 ?_
    refine Ex_icmp_ltN (k) (K.1) 14 d_ki_colour_9 rfl rfl rfl (by omega) (by omega) (fun hc9 => ?_) (fun hc9 => ?_)
    · refine Ex_iload_n d_ki_colour_14 rfl ?_
      refine Ex_iload_n d_ki_colour_15 rfl ?_
      refine Ex_isub d_ki_colour_16 ?_
      refine Ex_iconst d_ki_colour_17 ic_3 ?_
      refine Ex_iand d_ki_colour_18 ?_
      rw [show ((((nI (e)) - (nI (m))) &&& (3 : Int32)) : Int32) = (nI ((e + 8 - m) % 4)) from sub3 m hm e he]
      refine Ex_istore [some (.ref 1), some (.int (nI (k))), some (.int (nI (m))), some (.int (nI (e))), some (.int (nI ((e + 8 - m) % 4))), none] d_ki_colour_19 (Nat.le_of_ble_eq_true rfl) rfl ?_
      refine Ex_iload_n d_ki_colour_21 rfl ?_
      refine Ex_iconst d_ki_colour_22 ic_4 ?_
      refine Ex_icmp_ltN (m) (4) 35 d_ki_colour_23 rfl rfl rfl (by omega) (by omega) (fun hc23 => ?_) (fun hc23 => ?_)
      · refine Ex_iload d_ki_colour_35 rfl ?_
        refine Ex_istore [some (.ref 1), some (.int (nI (k))), some (.int (nI (m))), some (.int (nI (e))), some (.int (nI ((e + 8 - m) % 4))), some (.int (nI ((e + 8 - m) % 4)))] d_ki_colour_37 (Nat.le_of_ble_eq_true rfl) rfl ?_
        refine Ex_aload_n d_ki_colour_39 rfl ?_
        refine Ex_getR d_ki_colour_40 pf_ki_11 rfl (t_1 hs) (r_1_1 hs) ?_
        refine Ex_iload_n d_ki_colour_43 rfl ?_
        refine Ex_ialoadN (a := k) d_ki_colour_44 (t_2 hs) rfl (by omega) (by decide) (hK.2 (k) (by omega)).1 ?_
        refine Ex_iconst d_ki_colour_45 ic_4 ?_
        refine Ex_iload d_ki_colour_46 rfl ?_
        refine Ex_imulN (4) ((e + 8 - m) % 4) d_ki_colour_48 rfl rfl ?_
        refine Ex_ishr d_ki_colour_49 ?_
        rw [show (((nI (kE K (k))) >>> ((nI (4 * ((e + 8 - m) % 4))) &&& 31)) : Int32) = (nI (kE K k / 2 ^ (4 * ((e + 8 - m) % 4)))) from nI_shr (by omega) (by omega)]
        refine Ex_bipush d_ki_colour_50 bp_15 ?_
        refine Ex_iand d_ki_colour_52 ?_
        rw [show (((nI (kE K k / 2 ^ (4 * ((e + 8 - m) % 4)))) &&& (15 : Int32)) : Int32) = (nI ((kE K k / 2 ^ (4 * ((e + 8 - m) % 4))) % 16)) from nI_15 _]
        refine Ex_ireturn d_ki_colour_53 rfl ?_
        first | (exfalso; omega) | exact Pu_n (by unfold kCol; first | rw [was1 m hm e he (by omega) (by omega)] | rw [was2 m hm e he (by omega)] | rw [was3 m hm e he (by omega)] | rw [was4 m hm e he (by omega)])
      · refine Ex_iconst d_ki_colour_26 ic_4 ?_
        refine Ex_iload d_ki_colour_27 rfl ?_
        refine Ex_isub d_ki_colour_29 ?_
        refine Ex_iconst d_ki_colour_30 ic_3 ?_
        refine Ex_iand d_ki_colour_31 ?_
        rw [show ((((4 : Int32) - (nI ((e + 8 - m) % 4))) &&& (3 : Int32)) : Int32) = (nI ((4 - (e + 8 - m) % 4) % 4)) from sub4 _ (by omega)]
        refine Ex_goto 37 d_ki_colour_32 rfl ?_
        refine Ex_istore [some (.ref 1), some (.int (nI (k))), some (.int (nI (m))), some (.int (nI (e))), some (.int (nI ((e + 8 - m) % 4))), some (.int (nI ((4 - (e + 8 - m) % 4) % 4)))] d_ki_colour_37 (Nat.le_of_ble_eq_true rfl) rfl ?_
        refine Ex_aload_n d_ki_colour_39 rfl ?_
        refine Ex_getR d_ki_colour_40 pf_ki_11 rfl (t_1 hs) (r_1_1 hs) ?_
        refine Ex_iload_n d_ki_colour_43 rfl ?_
        refine Ex_ialoadN (a := k) d_ki_colour_44 (t_2 hs) rfl (by omega) (by decide) (hK.2 (k) (by omega)).1 ?_
        refine Ex_iconst d_ki_colour_45 ic_4 ?_
        refine Ex_iload d_ki_colour_46 rfl ?_
        refine Ex_imulN (4) ((4 - (e + 8 - m) % 4) % 4) d_ki_colour_48 rfl rfl ?_
        refine Ex_ishr d_ki_colour_49 ?_
        rw [show (((nI (kE K (k))) >>> ((nI (4 * ((4 - (e + 8 - m) % 4) % 4))) &&& 31)) : Int32) = (nI (kE K k / 2 ^ (4 * ((4 - (e + 8 - m) % 4) % 4)))) from nI_shr (by omega) (by omega)]
        refine Ex_bipush d_ki_colour_50 bp_15 ?_
        refine Ex_iand d_ki_colour_52 ?_
        rw [show (((nI (kE K k / 2 ^ (4 * ((4 - (e + 8 - m) % 4) % 4)))) &&& (15 : Int32)) : Int32) = (nI ((kE K k / 2 ^ (4 * ((4 - (e + 8 - m) % 4) % 4))) % 16)) from nI_15 _]
        refine Ex_ireturn d_ki_colour_53 rfl ?_
        first | (exfalso; omega) | exact Pu_n (by unfold kCol; first | rw [was1 m hm e he (by omega) (by omega)] | rw [was2 m hm e he (by omega)] | rw [was3 m hm e he (by omega)] | rw [was4 m hm e he (by omega)])
    · refine Ex_iconst d_ki_colour_12 ic_0 ?_
      refine Ex_ireturn d_ki_colour_13 rfl ?_
      first | (exfalso; omega) | exact Pu_n (by unfold kCol; first | rw [was1 m hm e he (by omega) (by omega)] | rw [was2 m hm e he (by omega)] | rw [was3 m hm e he (by omega)] | rw [was4 m hm e he (by omega)])
