/-! The rest of kinds: fits, moved cells of the class, edge and then. -/
theorem Pu_m1 {h : mj_H} {z : Int} (hc : z = -1) : Pu (.int (J z)) h (some (.int (-1))) h := ⟨by rw [hc]; rfl, rfl⟩
theorem Pu_nz {h : mj_H} {a : Nat} {z : Int} (hc : z = (a : Int)) : Pu (.int (J z)) h (some (.int (nI a))) h := ⟨by rw [hc, nIJ], rfl⟩
theorem Pu_zc {h : mj_H} {c : Int32} {z : Int} (hc : J z = c) : Pu (.int (J z)) h (some (.int c)) h := ⟨by rw [hc], rfl⟩
theorem rm_fit_n1 {S : mj_S} {h : mj_H} {x y : Int32} : Cl S rm_fit [.ref 38, .int (0), .int (x), .int (y)] h (Pu (.int (bI true)) h) := by
  show Ex S rm_fit 0 [some (.ref 38), some (.int (0)), some (.int (x)), some (.int (y))] [] h _
  refine Ex_iload_n d_rm_fit_0 rfl ?_
  refine Ex_if_eqN (0) 41 d_rm_fit_1 rfl rfl (by omega) (fun hc1 => ?_) (fun hc1 => ?_)
  · refine Ex_iconst d_rm_fit_41 ic_1 ?_
    refine Ex_goto 46 d_rm_fit_42 rfl ?_
    refine Ex_zreturn d_rm_fit_46 rfl (by decide) ?_
    exact ⟨rfl, rfl⟩
  · exact absurd hc1 (by decide)
theorem rm_fit_n2 {S : mj_S} {h : mj_H} {x y : Int32} : Cl S rm_fit [.ref 38, .int (x), .int (0), .int (y)] h (Pu (.int (bI true)) h) := by
  show Ex S rm_fit 0 [some (.ref 38), some (.int (x)), some (.int (0)), some (.int (y))] [] h _
  refine Ex_iload_n d_rm_fit_0 rfl ?_
  refine Ex_if_eq 41 d_rm_fit_1 rfl (fun hc1 => ?_) (fun hc1 => ?_)
  · refine Ex_iconst d_rm_fit_41 ic_1 ?_
    refine Ex_goto 46 d_rm_fit_42 rfl ?_
    refine Ex_zreturn d_rm_fit_46 rfl (by decide) ?_
    exact ⟨rfl, rfl⟩
  · refine Ex_iload_n d_rm_fit_4 rfl ?_
    refine Ex_if_eqN (0) 41 d_rm_fit_5 rfl rfl (by omega) (fun hc5 => ?_) (fun hc5 => ?_)
    · refine Ex_iconst d_rm_fit_41 ic_1 ?_
      refine Ex_goto 46 d_rm_fit_42 rfl ?_
      refine Ex_zreturn d_rm_fit_46 rfl (by decide) ?_
      exact ⟨rfl, rfl⟩
    · exact absurd hc5 (by decide)
theorem rm_fit_s {S : mj_S} {h : mj_H} (hs : HT h) {K : SK} (hK : KM K h) (hO : KO K) {c d : Tl} (hc : okT K.1 c) (hd : okT K.1 d) {e : Nat} (he : e < 4) : Cl S rm_fit [.ref 38, .int (eM c), .int (eM d), .int (nI e)] h (Pu (.int (bI (fitT K c d e))) h) := by
  match c, d, hc, hd with
  | none, d, _, _ => exact rm_fit_n1
  | some c, none, _, _ => exact rm_fit_n2
  | some (k, m, s), some (k2, m2, s2), hc, hd => exact rm_fit_t hs hK hO hc.1 hc.2.1 hc.2.2 hd.1 hd.2.1 hd.2.2 he
theorem ki_cellOf_s {S : mj_S} {h : mj_H} (hs : HT h) {K : SK} (hK : KC K h) (hO : KO K) {k m : Nat} (hk : k < K.1) (hm : m < 8) : Cl S ki_cellOf [.ref 1, .int (nI (k)), .int (nI (m))] h (Pu (.int (eC (some (k, kLie K k m, 0)))) h) := by
  show Ex S ki_cellOf 0 [some (.ref 1), some (.int (nI (k))), some (.int (nI (m)))] [] h _
  refine Ex_iload_n d_ki_cellOf_0 rfl ?_
  refine Ex_aload_n d_ki_cellOf_1 rfl ?_
  refine Ex_iload_n d_ki_cellOf_2 rfl ?_
  refine Ex_iload_n d_ki_cellOf_3 rfl ?_
  refine Ex_pV2 d_ki_cellOf_4 pk_ki_cellOf_44 (t_1 hs) (ki_lies_s hs hK hO hk hm) ?_
  refine Ex_iconst d_ki_cellOf_7 ic_0 ?_
  refine Ex_pS3 d_ki_cellOf_8 pk_ki_cellOf_48 (ce_tile_s (kLie_lt hO hk)) ?_
  refine Ex_ireturn d_ki_cellOf_11 rfl ?_
  exact ⟨rfl, rfl⟩
theorem ki_movedCell_t {S : mj_S} {h : mj_H} (hs : HT h) {K : SK} (hK : KC K h) (hO : KO K) {k m s q : Nat} (hk : k < K.1) (hm : m < 8) (hs6 : s < 65536) (hq : q < 8) : Cl S ki_movedCell [.ref 1, .int (nI (k * 524288 + (m * 65536 + s))), .int (nI (q))] h (Pu (.int (eC (mvT K (some (k, m, s)) q))) h) := by
  show Ex S ki_movedCell 0 [some (.ref 1), some (.int (nI (k * 524288 + (m * 65536 + s)))), some (.int (nI (q))), none, none] [] h _
  have hn40 := hO.1
  have hk40 : k < 40 := by omega
  refine Ex_iload_n d_ki_movedCell_0 rfl ?_
  refine Ex_if_geN (k * 524288 + (m * 65536 + s)) 6 d_ki_movedCell_1 rfl rfl (by omega) (fun hc1 => ?_) (fun hc1 => ?_)
  · refine Ex_iload_n d_ki_movedCell_6 rfl ?_
    refine Ex_pS1 d_ki_movedCell_7 pk_ki_movedCell_54 (ce_kindOf_t hk40 hm hs6) ?_
    refine Ex_istore_n [some (.ref 1), some (.int (nI (k * 524288 + (m * 65536 + s)))), some (.int (nI (q))), some (.int (nI (k))), none] d_ki_movedCell_10 (Nat.le_of_ble_eq_true rfl) rfl ?_
    refine Ex_aload_n d_ki_movedCell_11 rfl ?_
    refine Ex_iload_n d_ki_movedCell_12 rfl ?_
    refine Ex_iload_n d_ki_movedCell_13 rfl ?_
    refine Ex_pS1 d_ki_movedCell_14 pk_ki_movedCell_58 (ce_moveOf_t hk40 hm hs6) ?_
    refine Ex_iload_n d_ki_movedCell_17 rfl ?_
    refine Ex_pS2 d_ki_movedCell_18 pk_ki_movedCell_61 (ki_chained_s hm hq) ?_
    refine Ex_pV2 d_ki_movedCell_21 pk_ki_movedCell_44 (t_1 hs) (ki_lies_s hs hK hO hk (thn_lt _ _)) ?_
    refine Ex_istore [some (.ref 1), some (.int (nI (k * 524288 + (m * 65536 + s)))), some (.int (nI (q))), some (.int (nI (k))), some (.int (nI (kLie K k (thn m q))))] d_ki_movedCell_24 (Nat.le_of_ble_eq_true rfl) rfl ?_
    refine Ex_iload_n d_ki_movedCell_26 rfl ?_
    refine Ex_iload d_ki_movedCell_27 rfl ?_
    refine Ex_iload_n d_ki_movedCell_29 rfl ?_
    refine Ex_pS1 d_ki_movedCell_30 pk_ki_movedCell_64 (ce_shadeOf_t hk40 hm hs6) ?_
    refine Ex_pS3 d_ki_movedCell_33 pk_ki_movedCell_48 (ce_tile_s (kLie_lt hO hk)) ?_
    refine Ex_ireturn d_ki_movedCell_36 rfl ?_
    first | (exfalso; omega) | exact Pu_i (by rw [sg_lo s hs6]; rfl)
  · refine Ex_iload_n d_ki_movedCell_4 rfl ?_
    refine Ex_ireturn d_ki_movedCell_5 rfl ?_
    first | (exfalso; omega) | exact Pu_i (by rw [sg_lo s hs6]; rfl)
theorem ki_movedCell_n {S : mj_S} {h : mj_H} {x y : Int32} (hx : x < 0) : Cl S ki_movedCell [.ref 1, .int (x), .int (y)] h (Pu (.int x) h) := by
  show Ex S ki_movedCell 0 [some (.ref 1), some (.int (x)), some (.int (y)), none, none] [] h _
  refine Ex_iload_n d_ki_movedCell_0 rfl ?_
  refine Ex_if_ge 6 d_ki_movedCell_1 rfl (fun hc1 => ?_) (fun hc1 => ?_)
  · exact absurd hx (Int32.not_lt.mpr (by assumption))
  · refine Ex_iload_n d_ki_movedCell_4 rfl ?_
    refine Ex_ireturn d_ki_movedCell_5 rfl ?_
    exact ⟨rfl, rfl⟩
/-- a cell of the class, or none: its code -/
def eA (c : Option Tl) : Int32 := match c with
  | none => -2
  | some c => eC c
def okA (n : Nat) (c : Option Tl) : Prop := match c with
  | none => True
  | some c => okT n c
def mvA (K : SK) (c : Option Tl) (m : Nat) : Option Tl := c.map (fun c => mvT K c m)
def fitA (K : SK) (c d : Option Tl) (e : Nat) : Bool := match c, d with
  | some c, some d => fitT K c d e
  | _, _ => true
theorem mvA_ok {K : SK} (hO : KO K) {c : Option Tl} {m : Nat} (hc : okA K.1 c) : okA K.1 (mvA K c m) := by
  cases c with
  | none => trivial
  | some c => exact mvT_ok hO hc
theorem eA_inj {a b : Option Tl} (ha : okA 40 a) (hb : okA 40 b) : eA a = eA b ↔ a = b := by
  have m1 : (-2 : Int32) = nI 4294967294 := by decide
  have key : ∀ c : Tl, okT 40 c → eC c = -2 → False := by
    intro c hc h
    match c, hc with
    | none, _ => exact absurd h (by decide)
    | some (k, m, s), hc =>
      have h : nI (k * 524288 + (m * 65536 + s)) = (-2 : Int32) := h
      rw [m1] at h
      have b1 := hc.1; have b2 := hc.2.1; have b3 := hc.2.2
      have := nI_inj32 (by omega) (by omega) h
      omega
  match a, b, ha, hb with
  | none, none, _, _ => exact ⟨fun _ => rfl, fun _ => rfl⟩
  | none, some c, _, hb => exact ⟨fun h => (key c hb h.symm).elim, fun h => by cases h⟩
  | some c, none, ha, _ => exact ⟨fun h => (key c ha h).elim, fun h => by cases h⟩
  | some c, some d, ha, hb =>
    constructor
    · intro h
      rw [(eC_inj ha hb).mp h]
    · intro h
      cases h; rfl
theorem okT40 {n : Nat} {c : Tl} (h : okT n c) (hn : n ≤ 40) : okT 40 c := okT_mono h hn
theorem okA40 {n : Nat} {c : Option Tl} (h : okA n c) (hn : n ≤ 40) : okA 40 c := by
  cases c with
  | none => trivial
  | some c => exact okT40 h hn
theorem eC_neg : eC none < 0 := by decide
theorem eA_neg : eA none < 0 := by decide
theorem eC_t {k m s : Nat} : eC (some (k, m, s)) = nI (k * 524288 + (m * 65536 + s)) := rfl
theorem eA_cases {n : Nat} {c : Option Tl} (h : okA n c) : (eA c < 0 ∧ (c = none ∨ c = some none)) ∨ ∃ k m s, c = some (some (k, m, s)) ∧ k < n ∧ m < 8 ∧ s < 65536 := by
  match c, h with
  | none, _ => exact Or.inl ⟨eA_neg, Or.inl rfl⟩
  | some none, _ => exact Or.inl ⟨eC_neg, Or.inr rfl⟩
  | some (some (k, m, s)), h => exact Or.inr ⟨k, m, s, rfl, h.1, h.2.1, h.2.2⟩
theorem ki_movedCell_s {S : mj_S} {h : mj_H} (hs : HT h) {K : SK} (hK : KC K h) (hO : KO K) {c : Option Tl} (hc : okA K.1 c) {q : Nat} (hq : q < 8) : Cl S ki_movedCell [.ref 1, .int (eA c), .int (nI q)] h (Pu (.int (eA (mvA K c q))) h) := by
  match c, hc with
  | none, _ => exact ki_movedCell_n eA_neg
  | some none, _ => exact ki_movedCell_n eC_neg
  | some (some (k, m, s)), hc => exact ki_movedCell_t hs hK hO hc.1 hc.2.1 hc.2.2 hq
theorem ki_meet_t {S : mj_S} {h : mj_H} (hs : HT h) {K : SK} (hK : KC K h) (hO : KO K) {k m s k2 m2 s2 e : Nat} (hk : k < K.1) (hm : m < 8) (hs6 : s < 65536) (hk2 : k2 < K.1) (hm2 : m2 < 8) (hs62 : s2 < 65536) (he : e < 4) : Cl S ki_meet [.ref 1, .int (nI (k * 524288 + (m * 65536 + s))), .int (nI (e)), .int (nI (k2 * 524288 + (m2 * 65536 + s2)))] h (Pu (.int (bI (fitT K (some (k, m, s)) (some (k2, m2, s2)) e))) h) := by
  show Ex S ki_meet 0 [some (.ref 1), some (.int (nI (k * 524288 + (m * 65536 + s)))), some (.int (nI (e))), some (.int (nI (k2 * 524288 + (m2 * 65536 + s2)))), none] [] h _
  have hn40 := hO.1
  have hk40 : k < 40 := by omega
  have hk240 : k2 < 40 := by omega
  refine Ex_iload_n d_ki_meet_0 rfl ?_
  refine Ex_if_ltN (k * 524288 + (m * 65536 + s)) 8 d_ki_meet_1 rfl rfl (by (have := kCol_lt K k m e; have := kCol_lt K k2 m2 ((e + 2) % 4); omega)) (fun hc1 => ?_) (fun hc1 => ?_)
  · refine Ex_iconst d_ki_meet_8 ic_1 ?_
    refine Ex_zreturn d_ki_meet_9 rfl (by decide) ?_
    first | (exfalso; omega) | exact Pu_t (by assumption)
  · refine Ex_iload_n d_ki_meet_4 rfl ?_
    refine Ex_if_geN (k2 * 524288 + (m2 * 65536 + s2)) 10 d_ki_meet_5 rfl rfl (by (have := kCol_lt K k m e; have := kCol_lt K k2 m2 ((e + 2) % 4); omega)) (fun hc5 => ?_) (fun hc5 => ?_)
    · refine Ex_aload_n d_ki_meet_10 rfl ?_
      refine Ex_iload_n d_ki_meet_11 rfl ?_
      refine Ex_pS1 d_ki_meet_12 pk_ki_meet_54 (ce_kindOf_t hk40 hm hs6) ?_
      refine Ex_iload_n d_ki_meet_15 rfl ?_
      refine Ex_pS1 d_ki_meet_16 pk_ki_meet_58 (ce_moveOf_t hk40 hm hs6) ?_
      refine Ex_iload_n d_ki_meet_19 rfl ?_
      refine Ex_pV3 d_ki_meet_20 pk_ki_meet_67 (t_1 hs) (ki_colour_s hs hK hO hk hm he) ?_
      refine Ex_istore [some (.ref 1), some (.int (nI (k * 524288 + (m * 65536 + s)))), some (.int (nI (e))), some (.int (nI (k2 * 524288 + (m2 * 65536 + s2)))), some (.int (nI (kCol K k m e)))] d_ki_meet_23 (Nat.le_of_ble_eq_true rfl) rfl ?_
      refine Ex_iload d_ki_meet_25 rfl ?_
      refine Ex_aload_n d_ki_meet_27 rfl ?_
      refine Ex_iload_n d_ki_meet_28 rfl ?_
      refine Ex_pS1 d_ki_meet_29 pk_ki_meet_54 (ce_kindOf_t hk240 hm2 hs62) ?_
      refine Ex_iload_n d_ki_meet_32 rfl ?_
      refine Ex_pS1 d_ki_meet_33 pk_ki_meet_58 (ce_moveOf_t hk240 hm2 hs62) ?_
      refine Ex_iload_n d_ki_meet_36 rfl ?_
      refine Ex_iconst d_ki_meet_37 ic_2 ?_
      refine Ex_iaddN (e) (2) d_ki_meet_38 rfl rfl ?_
      refine Ex_iconst d_ki_meet_39 ic_3 ?_
      refine Ex_iand d_ki_meet_40 ?_
      rw [show (((nI (e + 2)) &&& (3 : Int32)) : Int32) = (nI ((e + 2) % 4)) from nI_3 _]
      refine Ex_pV3 d_ki_meet_41 pk_ki_meet_67 (t_1 hs) (ki_colour_s hs hK hO hk2 hm2 (by omega)) ?_
      refine Ex_icmp_neN (kCol K k m e) (kCol K k2 m2 ((e + 2) % 4)) 51 d_ki_meet_44 rfl rfl rfl (by (have := kCol_lt K k m e; have := kCol_lt K k2 m2 ((e + 2) % 4); omega)) (by (have := kCol_lt K k m e; have := kCol_lt K k2 m2 ((e + 2) % 4); omega)) (fun hc44 => ?_) (fun hc44 => ?_)
      · refine Ex_iconst d_ki_meet_51 ic_0 ?_
        refine Ex_zreturn d_ki_meet_52 rfl (by decide) ?_
        exact Pu_f (by assumption)
      · refine Ex_iconst d_ki_meet_47 ic_1 ?_
        refine Ex_goto 52 d_ki_meet_48 rfl ?_
        refine Ex_zreturn d_ki_meet_52 rfl (by decide) ?_
        first | (exfalso; omega) | exact Pu_t (by assumption)
    · refine Ex_iconst d_ki_meet_8 ic_1 ?_
      refine Ex_zreturn d_ki_meet_9 rfl (by decide) ?_
      first | (exfalso; omega) | exact Pu_t (by assumption)
theorem ki_meet_n1 {S : mj_S} {h : mj_H} {x y z : Int32} (hx : x < 0) : Cl S ki_meet [.ref 1, .int (x), .int (y), .int (z)] h (Pu (.int (bI true)) h) := by
  show Ex S ki_meet 0 [some (.ref 1), some (.int (x)), some (.int (y)), some (.int (z)), none] [] h _
  refine Ex_iload_n d_ki_meet_0 rfl ?_
  refine Ex_if_lt 8 d_ki_meet_1 rfl (fun hc1 => ?_) (fun hc1 => ?_)
  · refine Ex_iconst d_ki_meet_8 ic_1 ?_
    refine Ex_zreturn d_ki_meet_9 rfl (by decide) ?_
    exact ⟨rfl, rfl⟩
  · exact absurd hx (by assumption)
theorem ki_meet_n2 {S : mj_S} {h : mj_H} {x y z : Int32} (hx : z < 0) : Cl S ki_meet [.ref 1, .int (x), .int (y), .int (z)] h (Pu (.int (bI true)) h) := by
  show Ex S ki_meet 0 [some (.ref 1), some (.int (x)), some (.int (y)), some (.int (z)), none] [] h _
  refine Ex_iload_n d_ki_meet_0 rfl ?_
  refine Ex_if_lt 8 d_ki_meet_1 rfl (fun hc1 => ?_) (fun hc1 => ?_)
  · refine Ex_iconst d_ki_meet_8 ic_1 ?_
    refine Ex_zreturn d_ki_meet_9 rfl (by decide) ?_
    exact ⟨rfl, rfl⟩
  · refine Ex_iload_n d_ki_meet_4 rfl ?_
    refine Ex_if_ge 10 d_ki_meet_5 rfl (fun hc5 => ?_) (fun hc5 => ?_)
    · exact absurd hx (Int32.not_lt.mpr (by assumption))
    · refine Ex_iconst d_ki_meet_8 ic_1 ?_
      refine Ex_zreturn d_ki_meet_9 rfl (by decide) ?_
      exact ⟨rfl, rfl⟩
theorem ki_meet_s {S : mj_S} {h : mj_H} (hs : HT h) {K : SK} (hK : KC K h) (hO : KO K) {c d : Option Tl} (hc : okA K.1 c) (hd : okA K.1 d) {e : Nat} (he : e < 4) : Cl S ki_meet [.ref 1, .int (eA c), .int (nI e), .int (eA d)] h (Pu (.int (bI (fitA K c d e))) h) := by
  match c, d, hc, hd with
  | none, d, _, _ => exact ki_meet_n1 eA_neg
  | some none, none, _, _ => exact ki_meet_n1 eC_neg
  | some none, some d, _, _ => exact ki_meet_n1 eC_neg
  | some (some c), none, _, _ => exact ki_meet_n2 eA_neg
  | some (some c), some none, _, _ => exact ki_meet_n2 eC_neg
  | some (some (k, m, s)), some (some (k2, m2, s2)), hc, hd => exact ki_meet_t hs hK hO hc.1 hc.2.1 hc.2.2 hd.1 hd.2.1 hd.2.2 he
theorem to_isKindInMove_s {S : mj_S} {h : mj_H} (hs : HT h) {K : SK} (hK : KC K h) (hO : KO K) {z y : Int} (hz : -2147483648 ≤ z ∧ z < 2147483648) (hy : -2147483648 ≤ y ∧ y < 2147483648) : Cl S to_isKindInMove [.ref 0, .int (J (z)), .int (J (y))] h (Pu (.int (bI (decide (0 ≤ z ∧ z < K.1 ∧ 0 ≤ y ∧ y < 8)))) h) := by
  show Ex S to_isKindInMove 0 [some (.ref 0), some (.int (J (z))), some (.int (J (y)))] [] h _
  refine Ex_aload_n d_to_isKindInMove_0 rfl ?_
  refine Ex_getR d_to_isKindInMove_1 pf_to_20 rfl (t_0 hs) (r_0_0 hs) ?_
  refine Ex_iload_n d_to_isKindInMove_4 rfl ?_
  refine Ex_pV1 d_to_isKindInMove_5 pk_to_isKindInMove_110 (t_1 hs) (ki_has_s hs hK hO hz) ?_
  refine Ex_if_eqB (decide (0 ≤ z ∧ z < K.1)) 22 d_to_isKindInMove_8 rfl rfl (fun hc8 => ?_) (fun hc8 => ?_)
  · rw [decide_eq_false_iff_not] at hc8
    refine Ex_iconst d_to_isKindInMove_22 ic_0 ?_
    refine Ex_zreturn d_to_isKindInMove_23 rfl (by decide) ?_
    exact Pu_f (by omega)
  · rw [decide_eq_true_eq] at hc8
    refine Ex_iload_n d_to_isKindInMove_11 rfl ?_
    refine Ex_pS1 d_to_isKindInMove_12 pk_to_isKindInMove_114 (to_isMove_s hy) ?_
    refine Ex_if_eqB (decide (0 ≤ y ∧ y < 8)) 22 d_to_isKindInMove_15 rfl rfl (fun hc15 => ?_) (fun hc15 => ?_)
    · rw [decide_eq_false_iff_not] at hc15
      refine Ex_iconst d_to_isKindInMove_22 ic_0 ?_
      refine Ex_zreturn d_to_isKindInMove_23 rfl (by decide) ?_
      exact Pu_f (by omega)
    · rw [decide_eq_true_eq] at hc15
      refine Ex_iconst d_to_isKindInMove_18 ic_1 ?_
      refine Ex_goto 23 d_to_isKindInMove_19 rfl ?_
      refine Ex_zreturn d_to_isKindInMove_23 rfl (by decide) ?_
      exact Pu_t (by omega)
def thenS (a b : Int) : Int := if 0 ≤ a ∧ a < 8 ∧ 0 ≤ b ∧ b < 8 then thn a.toNat b.toNat else -1
def edgeS (K : SK) (z y e : Int) : Int := if 0 ≤ z ∧ z < K.1 ∧ 0 ≤ y ∧ y < 8 ∧ 0 ≤ e ∧ e ≤ 4 then (if e = 4 then (kLie K z.toNat y.toNat : Int) else (kCol K z.toNat (kLie K z.toNat y.toNat) e.toNat : Int)) else -1
theorem rm_then_s {S : mj_S} {h : mj_H} {z y : Int} (hz : -2147483648 ≤ z ∧ z < 2147483648) (hy : -2147483648 ≤ y ∧ y < 2147483648) : Cl S rm_then [.ref 38, .int (J (z)), .int (J (y))] h (Pu (.int (J (thenS z y))) h) := by
  show Ex S rm_then 0 [some (.ref 38), some (.int (J (z))), some (.int (J (y)))] [] h _
  refine Ex_iload_n d_rm_then_0 rfl ?_
  refine Ex_pS1 d_rm_then_1 pk_rm_then_137 (rm_isMove_s hz) ?_
  refine Ex_if_eqB (decide (0 ≤ z ∧ z < 8)) 22 d_rm_then_4 rfl rfl (fun hc4 => ?_) (fun hc4 => ?_)
  · rw [decide_eq_false_iff_not] at hc4
    refine Ex_iconst d_rm_then_22 ic_m1 ?_
    refine Ex_ireturn d_rm_then_23 rfl ?_
    exact Pu_m1 (by unfold thenS; rw [if_neg (by omega)])
  · rw [decide_eq_true_eq] at hc4
    refine Ex_iload_n d_rm_then_7 rfl ?_
    refine Ex_pS1 d_rm_then_8 pk_rm_then_137 (rm_isMove_s hy) ?_
    refine Ex_if_eqB (decide (0 ≤ y ∧ y < 8)) 22 d_rm_then_11 rfl rfl (fun hc11 => ?_) (fun hc11 => ?_)
    · rw [decide_eq_false_iff_not] at hc11
      refine Ex_iconst d_rm_then_22 ic_m1 ?_
      refine Ex_ireturn d_rm_then_23 rfl ?_
      exact Pu_m1 (by unfold thenS; rw [if_neg (by omega)])
    · rw [decide_eq_true_eq] at hc11
      obtain ⟨m, rfl⟩ : ∃ m : Nat, z = (m : Int) := ⟨z.toNat, by omega⟩
      obtain ⟨n, rfl⟩ : ∃ n : Nat, y = (n : Int) := ⟨y.toNat, by omega⟩
      simp only [← nIJ]
      refine Ex_iload_n d_rm_then_14 rfl ?_
      refine Ex_iload_n d_rm_then_15 rfl ?_
      refine Ex_pS2 d_rm_then_16 pk_rm_then_141 (rm_thenMove_s (by omega) (by omega)) ?_
      refine Ex_goto 23 d_rm_then_19 rfl ?_
      refine Ex_ireturn d_rm_then_23 rfl ?_
      exact Pu_nz (by unfold thenS; rw [if_pos (by omega)]; rfl)
theorem to_then_s {S : mj_S} {h : mj_H} {z y : Int} (hz : -2147483648 ≤ z ∧ z < 2147483648) (hy : -2147483648 ≤ y ∧ y < 2147483648) : Cl S to_then [.ref 0, .int (J (z)), .int (J (y))] h (Pu (.int (J (thenS z y))) h) := by
  show Ex S to_then 0 [some (.ref 0), some (.int (J (z))), some (.int (J (y)))] [] h _
  refine Ex_iload_n d_to_then_0 rfl ?_
  refine Ex_pS1 d_to_then_1 pk_to_then_114 (to_isMove_s hz) ?_
  refine Ex_if_eqB (decide (0 ≤ z ∧ z < 8)) 22 d_to_then_4 rfl rfl (fun hc4 => ?_) (fun hc4 => ?_)
  · rw [decide_eq_false_iff_not] at hc4
    refine Ex_iconst d_to_then_22 ic_m1 ?_
    refine Ex_ireturn d_to_then_23 rfl ?_
    exact Pu_m1 (by unfold thenS; rw [if_neg (by omega)])
  · rw [decide_eq_true_eq] at hc4
    refine Ex_iload_n d_to_then_7 rfl ?_
    refine Ex_pS1 d_to_then_8 pk_to_then_114 (to_isMove_s hy) ?_
    refine Ex_if_eqB (decide (0 ≤ y ∧ y < 8)) 22 d_to_then_11 rfl rfl (fun hc11 => ?_) (fun hc11 => ?_)
    · rw [decide_eq_false_iff_not] at hc11
      refine Ex_iconst d_to_then_22 ic_m1 ?_
      refine Ex_ireturn d_to_then_23 rfl ?_
      exact Pu_m1 (by unfold thenS; rw [if_neg (by omega)])
    · rw [decide_eq_true_eq] at hc11
      obtain ⟨m, rfl⟩ : ∃ m : Nat, z = (m : Int) := ⟨z.toNat, by omega⟩
      obtain ⟨n, rfl⟩ : ∃ n : Nat, y = (n : Int) := ⟨y.toNat, by omega⟩
      simp only [← nIJ]
      refine Ex_iload_n d_to_then_14 rfl ?_
      refine Ex_iload_n d_to_then_15 rfl ?_
      refine Ex_pS2 d_to_then_16 pk_to_then_125 (ki_chained_s (by omega) (by omega)) ?_
      refine Ex_goto 23 d_to_then_19 rfl ?_
      refine Ex_ireturn d_to_then_23 rfl ?_
      exact Pu_nz (by unfold thenS; rw [if_pos (by omega)]; rfl)
theorem rm_edge_s {S : mj_S} {h : mj_H} (hs : HT h) {K : SK} (hK : KM K h) (hO : KO K) {z y : Int} (hz : -2147483648 ≤ z ∧ z < 2147483648) (hy : -2147483648 ≤ y ∧ y < 2147483648) {e : Int} (he : -2147483648 ≤ e ∧ e < 2147483648) : Cl S rm_edge [.ref 38, .int (J (z)), .int (J (y)), .int (J (e))] h (Pu (.int (J (edgeS K z y e))) h) := by
  show Ex S rm_edge 0 [some (.ref 38), some (.int (J (z))), some (.int (J (y))), some (.int (J (e))), none] [] h _
  refine Ex_aload_n d_rm_edge_0 rfl ?_
  refine Ex_iload_n d_rm_edge_1 rfl ?_
  refine Ex_pV1 d_rm_edge_2 pk_rm_edge_145 (t_38 hs) (rm_isKind_s hs hK hO hz) ?_
  refine Ex_if_eqB (decide (0 ≤ z ∧ z < K.1)) 24 d_rm_edge_5 rfl rfl (fun hc5 => ?_) (fun hc5 => ?_)
  · rw [decide_eq_false_iff_not] at hc5
    refine Ex_iconst d_rm_edge_24 ic_m1 ?_
    refine Ex_ireturn d_rm_edge_25 rfl ?_
    exact Pu_m1 (by unfold edgeS; rw [if_neg (by omega)])
  · rw [decide_eq_true_eq] at hc5
    refine Ex_iload_n d_rm_edge_8 rfl ?_
    refine Ex_pS1 d_rm_edge_9 pk_rm_edge_137 (rm_isMove_s hy) ?_
    refine Ex_if_eqB (decide (0 ≤ y ∧ y < 8)) 24 d_rm_edge_12 rfl rfl (fun hc12 => ?_) (fun hc12 => ?_)
    · rw [decide_eq_false_iff_not] at hc12
      refine Ex_iconst d_rm_edge_24 ic_m1 ?_
      refine Ex_ireturn d_rm_edge_25 rfl ?_
      exact Pu_m1 (by unfold edgeS; rw [if_neg (by omega)])
    · rw [decide_eq_true_eq] at hc12
      refine Ex_iload_n d_rm_edge_15 rfl ?_
      refine Ex_if_ltZ (e) 24 d_rm_edge_16 rfl rfl (by omega) (fun hc16 => ?_) (fun hc16 => ?_)
      · refine Ex_iconst d_rm_edge_24 ic_m1 ?_
        refine Ex_ireturn d_rm_edge_25 rfl ?_
        exact Pu_m1 (by unfold edgeS; rw [if_neg (by omega)])
      · refine Ex_iload_n d_rm_edge_19 rfl ?_
        refine Ex_iconst d_rm_edge_20 ic_4 ?_
        refine Ex_icmp_leZ (e) ((4)) 26 d_rm_edge_21 rfl rfl (by decide) (by omega) (by omega) (fun hc21 => ?_) (fun hc21 => ?_)
        · refine Ex_aload_n d_rm_edge_26 rfl ?_
          obtain ⟨k, rfl⟩ : ∃ k : Nat, z = (k : Int) := ⟨z.toNat, by omega⟩
          obtain ⟨m, rfl⟩ : ∃ m : Nat, y = (m : Int) := ⟨y.toNat, by omega⟩
          simp only [← nIJ]
          refine Ex_iload_n d_rm_edge_27 rfl ?_
          refine Ex_iload_n d_rm_edge_28 rfl ?_
          refine Ex_pV2 d_rm_edge_29 pk_rm_edge_148 (t_38 hs) (rm_lies_s hs hK hO (by omega) (by omega)) ?_
          refine Ex_istore [some (.ref 38), some (.int (nI (k))), some (.int (nI (m))), some (.int (J (e))), some (.int (nI (kLie K k m)))] d_rm_edge_32 (Nat.le_of_ble_eq_true rfl) rfl ?_
          refine Ex_iload_n d_rm_edge_34 rfl ?_
          refine Ex_iconst d_rm_edge_35 ic_4 ?_
          refine Ex_icmp_neZ (e) ((4)) 44 d_rm_edge_36 rfl rfl (by decide) (by omega) (by omega) (fun hc36 => ?_) (fun hc36 => ?_)
          · refine Ex_aload_n d_rm_edge_44 rfl ?_
            refine Ex_iload_n d_rm_edge_45 rfl ?_
            refine Ex_iload d_rm_edge_46 rfl ?_
            obtain ⟨n, rfl⟩ : ∃ n : Nat, e = (n : Int) := ⟨e.toNat, by omega⟩
            simp only [← nIJ]
            refine Ex_iload_n d_rm_edge_48 rfl ?_
            refine Ex_pV3 d_rm_edge_49 pk_rm_edge_151 (t_38 hs) (rm_colour_s hs hK hO (by omega) (kLie_lt hO (by omega)) (by omega)) ?_
            refine Ex_ireturn d_rm_edge_52 rfl ?_
            exact Pu_nz (by unfold edgeS; rw [if_pos (by omega), if_neg (by omega)]; rfl)
          · refine Ex_iload d_rm_edge_39 rfl ?_
            refine Ex_goto 52 d_rm_edge_41 rfl ?_
            refine Ex_ireturn d_rm_edge_52 rfl ?_
            exact Pu_nz (by unfold edgeS; rw [if_pos (by omega), if_pos (by omega)]; rfl)
        · refine Ex_iconst d_rm_edge_24 ic_m1 ?_
          refine Ex_ireturn d_rm_edge_25 rfl ?_
          exact Pu_m1 (by unfold edgeS; rw [if_neg (by omega)])
theorem to_edge_s {S : mj_S} {h : mj_H} (hs : HT h) {K : SK} (hK : KC K h) (hO : KO K) {z y : Int} (hz : -2147483648 ≤ z ∧ z < 2147483648) (hy : -2147483648 ≤ y ∧ y < 2147483648) {e : Int} (he : -2147483648 ≤ e ∧ e < 2147483648) : Cl S to_edge [.ref 0, .int (J (z)), .int (J (y)), .int (J (e))] h (Pu (.int (J (edgeS K z y e))) h) := by
  show Ex S to_edge 0 [some (.ref 0), some (.int (J (z))), some (.int (J (y))), some (.int (J (e))), none] [] h _
  refine Ex_aload_n d_to_edge_0 rfl ?_
  refine Ex_getR d_to_edge_1 pf_to_20 rfl (t_0 hs) (r_0_0 hs) ?_
  refine Ex_iload_n d_to_edge_4 rfl ?_
  refine Ex_pV1 d_to_edge_5 pk_to_edge_110 (t_1 hs) (ki_has_s hs hK hO hz) ?_
  refine Ex_if_eqB (decide (0 ≤ z ∧ z < K.1)) 27 d_to_edge_8 rfl rfl (fun hc8 => ?_) (fun hc8 => ?_)
  · rw [decide_eq_false_iff_not] at hc8
    refine Ex_iconst d_to_edge_27 ic_m1 ?_
    refine Ex_ireturn d_to_edge_28 rfl ?_
    exact Pu_m1 (by unfold edgeS; rw [if_neg (by omega)])
  · rw [decide_eq_true_eq] at hc8
    refine Ex_iload_n d_to_edge_11 rfl ?_
    refine Ex_pS1 d_to_edge_12 pk_to_edge_114 (to_isMove_s hy) ?_
    refine Ex_if_eqB (decide (0 ≤ y ∧ y < 8)) 27 d_to_edge_15 rfl rfl (fun hc15 => ?_) (fun hc15 => ?_)
    · rw [decide_eq_false_iff_not] at hc15
      refine Ex_iconst d_to_edge_27 ic_m1 ?_
      refine Ex_ireturn d_to_edge_28 rfl ?_
      exact Pu_m1 (by unfold edgeS; rw [if_neg (by omega)])
    · rw [decide_eq_true_eq] at hc15
      refine Ex_iload_n d_to_edge_18 rfl ?_
      refine Ex_if_ltZ (e) 27 d_to_edge_19 rfl rfl (by omega) (fun hc19 => ?_) (fun hc19 => ?_)
      · refine Ex_iconst d_to_edge_27 ic_m1 ?_
        refine Ex_ireturn d_to_edge_28 rfl ?_
        exact Pu_m1 (by unfold edgeS; rw [if_neg (by omega)])
      · refine Ex_iload_n d_to_edge_22 rfl ?_
        refine Ex_iconst d_to_edge_23 ic_4 ?_
        refine Ex_icmp_leZ (e) ((4)) 29 d_to_edge_24 rfl rfl (by decide) (by omega) (by omega) (fun hc24 => ?_) (fun hc24 => ?_)
        · refine Ex_aload_n d_to_edge_29 rfl ?_
          refine Ex_getR d_to_edge_30 pf_to_20 rfl (t_0 hs) (r_0_0 hs) ?_
          obtain ⟨k, rfl⟩ : ∃ k : Nat, z = (k : Int) := ⟨z.toNat, by omega⟩
          obtain ⟨m, rfl⟩ : ∃ m : Nat, y = (m : Int) := ⟨y.toNat, by omega⟩
          simp only [← nIJ]
          refine Ex_iload_n d_to_edge_33 rfl ?_
          refine Ex_iload_n d_to_edge_34 rfl ?_
          refine Ex_pV2 d_to_edge_35 pk_to_edge_117 (t_1 hs) (ki_lies_s hs hK hO (by omega) (by omega)) ?_
          refine Ex_istore [some (.ref 0), some (.int (nI (k))), some (.int (nI (m))), some (.int (J (e))), some (.int (nI (kLie K k m)))] d_to_edge_38 (Nat.le_of_ble_eq_true rfl) rfl ?_
          refine Ex_iload_n d_to_edge_40 rfl ?_
          refine Ex_iconst d_to_edge_41 ic_4 ?_
          refine Ex_icmp_neZ (e) ((4)) 50 d_to_edge_42 rfl rfl (by decide) (by omega) (by omega) (fun hc42 => ?_) (fun hc42 => ?_)
          · refine Ex_aload_n d_to_edge_50 rfl ?_
            refine Ex_getR d_to_edge_51 pf_to_20 rfl (t_0 hs) (r_0_0 hs) ?_
            refine Ex_iload_n d_to_edge_54 rfl ?_
            refine Ex_iload d_to_edge_55 rfl ?_
            obtain ⟨n, rfl⟩ : ∃ n : Nat, e = (n : Int) := ⟨e.toNat, by omega⟩
            simp only [← nIJ]
            refine Ex_iload_n d_to_edge_57 rfl ?_
            refine Ex_pV3 d_to_edge_58 pk_to_edge_121 (t_1 hs) (ki_colour_s hs hK hO (by omega) (kLie_lt hO (by omega)) (by omega)) ?_
            refine Ex_ireturn d_to_edge_61 rfl ?_
            exact Pu_nz (by unfold edgeS; rw [if_pos (by omega), if_neg (by omega)]; rfl)
          · refine Ex_iload d_to_edge_45 rfl ?_
            refine Ex_goto 61 d_to_edge_47 rfl ?_
            refine Ex_ireturn d_to_edge_61 rfl ?_
            exact Pu_nz (by unfold edgeS; rw [if_pos (by omega), if_pos (by omega)]; rfl)
        · refine Ex_iconst d_to_edge_27 ic_m1 ?_
          refine Ex_ireturn d_to_edge_28 rfl ?_
          exact Pu_m1 (by unfold edgeS; rw [if_neg (by omega)])
