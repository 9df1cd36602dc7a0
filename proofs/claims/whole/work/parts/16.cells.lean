/-! Cells: their parts, moved, and whether two fit. -/
theorem J_shr16 {z : Int} (h1 : -2147483648 ≤ z) (h2 : z < 2147483648) : J z >>> (nI 16 &&& 31) = J (z / 65536) := by
  apply Int32.toInt_inj.mp
  rw [J_toInt (by omega) (by omega)]
  show ((J z >>> (nI 16 &&& 31)).toBitVec).toInt = _
  rw [Int32.toBitVec_shiftRight]
  show ((J z).toBitVec.sshiftRight ((nI 16 &&& 31).toBitVec.smod 32).toNat).toInt = _
  rw [sh_l 16 (by omega), BitVec.toInt_sshiftRight]
  show (J z).toInt >>> 16 = _
  rw [J_toInt h1 h2, Int.shiftRight_eq_div_pow]
  rfl
theorem w16t {k m s : Nat} (hk : k < 40) (hm : m < 8) : nI (s * 65536 + (8 * k + m + 1)) &&& 65535 = nI (8 * k + m + 1) := by
  rw [nI_w16]
  refine congrArg nI ?_
  omega
theorem nI_big {n : Nat} (h1 : 2147483648 ≤ n) (h2 : n < 4294967296) : nI n = J ((n : Int) - 4294967296) := by
  rw [nIJ]
  exact J_mod (by omega)
theorem shr16 {s x : Nat} (hs : s < 65536) (hx : x < 65536) : nI (s * 65536 + x) >>> ((16 : Int32) &&& 31) = J (sg s) := by
  show _ >>> (nI 16 &&& 31) = _
  by_cases h : s < 32768
  · rw [nIJ, J_shr16 (by omega) (by omega)]
    refine congrArg J ?_
    unfold sg
    rw [if_pos h]
    omega
  · rw [nI_big (by omega) (by omega), J_shr16 (by omega) (by omega)]
    refine congrArg J ?_
    unfold sg
    rw [if_neg h]
    omega
theorem low16 {k m s : Nat} (hs : s < 65536) : lo16 (nI (k * 524288 + (m * 65536 + s))) = s := by
  rw [lo16_nI]; omega
theorem short_t {k m s : Nat} (hs : s < 65536) : (nI (k * 524288 + (m * 65536 + s))).toInt16.toInt32 = J (sg s) := by
  rw [short_eq, low16 hs]
def mvT (K : SK) (c : Tl) (m : Nat) : Tl := match c with
  | none => none
  | some (k, q, s) => some (k, kLie K k (thn q m), s)
def fitT (K : SK) (c d : Tl) (e : Nat) : Bool := match c, d with
  | some (k, m, _), some (k2, m2, _) => decide (kCol K k m e = kCol K k2 m2 ((e + 2) % 4))
  | _, _ => true
theorem mvT_ok {K : SK} (hO : KO K) {c : Tl} {m : Nat} (hc : okT K.1 c) : okT K.1 (mvT K c m) := by
  match c, hc with
  | none, _ => trivial
  | some (k, q, s), hc => exact ⟨hc.1, kLie_lt hO hc.1, hc.2.2⟩
theorem ce_tile_s {S : mj_S} {h : mj_H} {k m : Nat} (hm : m < 8) {x : Int32} : Cl S ce_tile [.int (nI (k)), .int (nI (m)), .int (x)] h (Pu (.int (eC (some (k, m, lo16 x)))) h) := by
  show Ex S ce_tile 0 [some (.int (nI (k))), some (.int (nI (m))), some (.int (x))] [] h _
  refine Ex_iload_n d_ce_tile_0 rfl ?_
  refine Ex_bipush d_ce_tile_1 bp_19 ?_
  refine Ex_ishl d_ce_tile_3 ?_
  rw [show (((nI (k)) <<< ((19 : Int32) &&& 31)) : Int32) = (nI (k * 2 ^ 19)) from nI_shl k (j := 19) (by omega)]
  refine Ex_iload_n d_ce_tile_4 rfl ?_
  refine Ex_bipush d_ce_tile_5 bp_16 ?_
  refine Ex_ishl d_ce_tile_7 ?_
  rw [show (((nI (m)) <<< ((16 : Int32) &&& 31)) : Int32) = (nI (m * 2 ^ 16)) from nI_shl m (j := 16) (by omega)]
  refine Ex_ior d_ce_tile_8 ?_
  rw [show (((nI (k * 2 ^ 19)) ||| (nI (m * 2 ^ 16))) : Int32) = (nI (k * 2 ^ 19 + m * 2 ^ 16)) from nI_orA (by omega)]
  refine Ex_iload_n d_ce_tile_9 rfl ?_
  refine Ex_ldc pi_ce_7 d_ce_tile_10 ?_
  refine Ex_iand d_ce_tile_12 ?_
  rw [show ((x &&& (65535 : Int32)) : Int32) = (nI (lo16 x)) from lo16_mask x]
  refine Ex_ior d_ce_tile_13 ?_
  rw [show (((nI (k * 2 ^ 19 + m * 2 ^ 16)) ||| (nI (lo16 x))) : Int32) = (nI (k * 524288 + (m * 65536 + lo16 x))) from tile_or hm (lo16_lt x)]
  refine Ex_ireturn d_ce_tile_14 rfl ?_
  exact ⟨rfl, rfl⟩
theorem ce_kindOf_t {S : mj_S} {h : mj_H} {k m s : Nat} (hk : k < 40) (hm : m < 8) (hs6 : s < 65536) : Cl S ce_kindOf [.int (nI (k * 524288 + (m * 65536 + s)))] h (Pu (.int (nI k)) h) := by
  show Ex S ce_kindOf 0 [some (.int (nI (k * 524288 + (m * 65536 + s))))] [] h _
  refine Ex_iload_n d_ce_kindOf_0 rfl ?_
  refine Ex_if_geN (k * 524288 + (m * 65536 + s)) 8 d_ce_kindOf_1 rfl rfl (by omega) (fun hc1 => ?_) (fun hc1 => ?_)
  · refine Ex_iload_n d_ce_kindOf_8 rfl ?_
    refine Ex_bipush d_ce_kindOf_9 bp_19 ?_
    refine Ex_ishr d_ce_kindOf_11 ?_
    rw [show (((nI (k * 524288 + (m * 65536 + s))) >>> ((19 : Int32) &&& 31)) : Int32) = (nI ((k * 524288 + (m * 65536 + s)) / 2 ^ 19)) from nI_shr (j := 19) (by omega) (by decide)]
    refine Ex_ireturn d_ce_kindOf_12 rfl ?_
    first | (exfalso; omega) | exact Pu_n (by omega)
  · refine Ex_iload_n d_ce_kindOf_4 rfl ?_
    refine Ex_goto 12 d_ce_kindOf_5 rfl ?_
    refine Ex_ireturn d_ce_kindOf_12 rfl ?_
    first | (exfalso; omega) | exact Pu_n (by omega)
theorem ce_kindOf_n {S : mj_S} {h : mj_H} {x : Int32} (hx : x < 0) : Cl S ce_kindOf [.int (x)] h (Pu (.int (x)) h) := by
  show Ex S ce_kindOf 0 [some (.int (x))] [] h _
  refine Ex_iload_n d_ce_kindOf_0 rfl ?_
  refine Ex_if_ge 8 d_ce_kindOf_1 rfl (fun hc1 => ?_) (fun hc1 => ?_)
  · exact absurd hx (Int32.not_lt.mpr (by assumption))
  · refine Ex_iload_n d_ce_kindOf_4 rfl ?_
    refine Ex_goto 12 d_ce_kindOf_5 rfl ?_
    refine Ex_ireturn d_ce_kindOf_12 rfl ?_
    exact ⟨rfl, rfl⟩
theorem ce_moveOf_t {S : mj_S} {h : mj_H} {k m s : Nat} (hk : k < 40) (hm : m < 8) (hs6 : s < 65536) : Cl S ce_moveOf [.int (nI (k * 524288 + (m * 65536 + s)))] h (Pu (.int (nI m)) h) := by
  show Ex S ce_moveOf 0 [some (.int (nI (k * 524288 + (m * 65536 + s))))] [] h _
  refine Ex_iload_n d_ce_moveOf_0 rfl ?_
  refine Ex_if_geN (k * 524288 + (m * 65536 + s)) 8 d_ce_moveOf_1 rfl rfl (by omega) (fun hc1 => ?_) (fun hc1 => ?_)
  · refine Ex_iload_n d_ce_moveOf_8 rfl ?_
    refine Ex_bipush d_ce_moveOf_9 bp_16 ?_
    refine Ex_ishr d_ce_moveOf_11 ?_
    rw [show (((nI (k * 524288 + (m * 65536 + s))) >>> ((16 : Int32) &&& 31)) : Int32) = (nI ((k * 524288 + (m * 65536 + s)) / 2 ^ 16)) from nI_shr (j := 16) (by omega) (by decide)]
    refine Ex_bipush d_ce_moveOf_12 bp_7 ?_
    refine Ex_iand d_ce_moveOf_14 ?_
    rw [show (((nI ((k * 524288 + (m * 65536 + s)) / 2 ^ 16)) &&& (7 : Int32)) : Int32) = (nI ((k * 524288 + (m * 65536 + s)) / 2 ^ 16 % 8)) from nI_7 _]
    refine Ex_ireturn d_ce_moveOf_15 rfl ?_
    first | (exfalso; omega) | exact Pu_n (by omega)
  · refine Ex_iconst d_ce_moveOf_4 ic_0 ?_
    refine Ex_goto 15 d_ce_moveOf_5 rfl ?_
    refine Ex_ireturn d_ce_moveOf_15 rfl ?_
    first | (exfalso; omega) | exact Pu_n (by omega)
theorem ce_moveOf_n {S : mj_S} {h : mj_H} {x : Int32} (hx : x < 0) : Cl S ce_moveOf [.int (x)] h (Pu (.int (0)) h) := by
  show Ex S ce_moveOf 0 [some (.int (x))] [] h _
  refine Ex_iload_n d_ce_moveOf_0 rfl ?_
  refine Ex_if_ge 8 d_ce_moveOf_1 rfl (fun hc1 => ?_) (fun hc1 => ?_)
  · exact absurd hx (Int32.not_lt.mpr (by assumption))
  · refine Ex_iconst d_ce_moveOf_4 ic_0 ?_
    refine Ex_goto 15 d_ce_moveOf_5 rfl ?_
    refine Ex_ireturn d_ce_moveOf_15 rfl ?_
    exact ⟨rfl, rfl⟩
theorem ce_shadeOf_t {S : mj_S} {h : mj_H} {k m s : Nat} (hk : k < 40) (hm : m < 8) (hs6 : s < 65536) : Cl S ce_shadeOf [.int (nI (k * 524288 + (m * 65536 + s)))] h (Pu (.int (J (sg s))) h) := by
  show Ex S ce_shadeOf 0 [some (.int (nI (k * 524288 + (m * 65536 + s))))] [] h _
  refine Ex_iload_n d_ce_shadeOf_0 rfl ?_
  refine Ex_if_geN (k * 524288 + (m * 65536 + s)) 8 d_ce_shadeOf_1 rfl rfl (by omega) (fun hc1 => ?_) (fun hc1 => ?_)
  · refine Ex_iload_n d_ce_shadeOf_8 rfl ?_
    refine Ex_i2s d_ce_shadeOf_9 ?_
    refine Ex_ireturn d_ce_shadeOf_10 rfl ?_
    first | (exfalso; omega) | exact Pu_i (short_t hs6)
  · refine Ex_iconst d_ce_shadeOf_4 ic_0 ?_
    refine Ex_goto 10 d_ce_shadeOf_5 rfl ?_
    refine Ex_ireturn d_ce_shadeOf_10 rfl ?_
    first | (exfalso; omega) | exact Pu_i (short_t hs6)
theorem ce_shadeOf_n {S : mj_S} {h : mj_H} {x : Int32} (hx : x < 0) : Cl S ce_shadeOf [.int (x)] h (Pu (.int (0)) h) := by
  show Ex S ce_shadeOf 0 [some (.int (x))] [] h _
  refine Ex_iload_n d_ce_shadeOf_0 rfl ?_
  refine Ex_if_ge 8 d_ce_shadeOf_1 rfl (fun hc1 => ?_) (fun hc1 => ?_)
  · exact absurd hx (Int32.not_lt.mpr (by assumption))
  · refine Ex_iconst d_ce_shadeOf_4 ic_0 ?_
    refine Ex_goto 10 d_ce_shadeOf_5 rfl ?_
    refine Ex_ireturn d_ce_shadeOf_10 rfl ?_
    exact ⟨rfl, rfl⟩
theorem ce_shaded_t {S : mj_S} {h : mj_H} {k m s : Nat} (hk : k < 40) (hm : m < 8) (hs6 : s < 65536) {x : Int32} : Cl S ce_shaded [.int (nI (k * 524288 + (m * 65536 + s))), .int (x)] h (Pu (.int (eC (some (k, m, lo16 x)))) h) := by
  show Ex S ce_shaded 0 [some (.int (nI (k * 524288 + (m * 65536 + s)))), some (.int (x))] [] h _
  refine Ex_iload_n d_ce_shaded_0 rfl ?_
  refine Ex_if_geN (k * 524288 + (m * 65536 + s)) 8 d_ce_shaded_1 rfl rfl (by omega) (fun hc1 => ?_) (fun hc1 => ?_)
  · refine Ex_iload_n d_ce_shaded_8 rfl ?_
    refine Ex_pS1 d_ce_shaded_9 pk_ce_shaded_8 (ce_kindOf_t hk hm hs6) ?_
    refine Ex_iload_n d_ce_shaded_12 rfl ?_
    refine Ex_pS1 d_ce_shaded_13 pk_ce_shaded_14 (ce_moveOf_t hk hm hs6) ?_
    refine Ex_iload_n d_ce_shaded_16 rfl ?_
    refine Ex_pS3 d_ce_shaded_17 pk_ce_shaded_17 (ce_tile_s hm) ?_
    refine Ex_ireturn d_ce_shaded_20 rfl ?_
    first | (exfalso; omega) | exact ⟨rfl, rfl⟩
  · refine Ex_iload_n d_ce_shaded_4 rfl ?_
    refine Ex_goto 20 d_ce_shaded_5 rfl ?_
    refine Ex_ireturn d_ce_shaded_20 rfl ?_
    first | (exfalso; omega) | exact ⟨rfl, rfl⟩
theorem ce_shaded_n {S : mj_S} {h : mj_H} {x y : Int32} (hx : x < 0) : Cl S ce_shaded [.int (x), .int (y)] h (Pu (.int x) h) := by
  show Ex S ce_shaded 0 [some (.int (x)), some (.int (y))] [] h _
  refine Ex_iload_n d_ce_shaded_0 rfl ?_
  refine Ex_if_ge 8 d_ce_shaded_1 rfl (fun hc1 => ?_) (fun hc1 => ?_)
  · exact absurd hx (Int32.not_lt.mpr (by assumption))
  · refine Ex_iload_n d_ce_shaded_4 rfl ?_
    refine Ex_goto 20 d_ce_shaded_5 rfl ?_
    refine Ex_ireturn d_ce_shaded_20 rfl ?_
    exact ⟨rfl, rfl⟩
theorem rm_cell_s {S : mj_S} {h : mj_H} {k m s : Nat} (hk : k < 40) (hm : m < 8) (hs6 : s < 65536) : Cl S rm_cell [.int (nI (k)), .int (nI (m)), .int (J (sg s))] h (Pu (.int (eM (some (k, m, s)))) h) := by
  show Ex S rm_cell 0 [some (.int (nI (k))), some (.int (nI (m))), some (.int (J (sg s)))] [] h _
  refine Ex_iload_n d_rm_cell_0 rfl ?_
  refine Ex_bipush d_rm_cell_1 bp_16 ?_
  refine Ex_ishl d_rm_cell_3 ?_
  refine Ex_bipush d_rm_cell_4 bp_8 ?_
  refine Ex_iload_n d_rm_cell_6 rfl ?_
  refine Ex_imulN (8) (k) d_rm_cell_7 rfl rfl ?_
  refine Ex_iload_n d_rm_cell_8 rfl ?_
  refine Ex_iaddN (8 * k) (m) d_rm_cell_9 rfl rfl ?_
  refine Ex_iconst d_rm_cell_10 ic_1 ?_
  refine Ex_iaddN ((8 * k) + m) (1) d_rm_cell_11 rfl rfl ?_
  refine Ex_ior d_rm_cell_12 ?_
  refine Ex_ireturn d_rm_cell_13 rfl ?_
  exact Pu_i (sg_shl s (8 * k + m + 1) hs6 (by omega))
theorem rm_cell_0 {S : mj_S} {h : mj_H} {k m : Nat} (hk : k < 40) (hm : m < 8) : Cl S rm_cell [.int (nI k), .int (nI m), .int 0] h (Pu (.int (eM (some (k, m, 0)))) h) := rm_cell_s hk hm (show 0 < 65536 by omega)
theorem rm_kindOf_s {S : mj_S} {h : mj_H} {k m s : Nat} (hk : k < 40) (hm : m < 8) (hs6 : s < 65536) : Cl S rm_kindOf [.int (nI (s * 65536 + (8 * k + m + 1)))] h (Pu (.int (nI k)) h) := by
  show Ex S rm_kindOf 0 [some (.int (nI (s * 65536 + (8 * k + m + 1))))] [] h _
  refine Ex_iload_n d_rm_kindOf_0 rfl ?_
  refine Ex_ldc pi_rm_155 d_rm_kindOf_1 ?_
  refine Ex_iand d_rm_kindOf_3 ?_
  rw [show (((nI (s * 65536 + (8 * k + m + 1))) &&& (65535 : Int32)) : Int32) = (nI (8 * k + m + 1)) from w16t hk hm]
  refine Ex_iconst d_rm_kindOf_4 ic_1 ?_
  refine Ex_isubN (8 * k + m + 1) (1) d_rm_kindOf_5 rfl rfl (by omega) ?_
  refine Ex_iconst d_rm_kindOf_6 ic_3 ?_
  refine Ex_ishr d_rm_kindOf_7 ?_
  rw [show (((nI ((8 * k + m + 1) - 1)) >>> ((3 : Int32) &&& 31)) : Int32) = (nI ((8 * k + m + 1 - 1) / 2 ^ 3)) from nI_shr (j := 3) (by omega) (by decide)]
  refine Ex_ireturn d_rm_kindOf_8 rfl ?_
  exact Pu_n (by omega)
theorem rm_moveOf_s {S : mj_S} {h : mj_H} {k m s : Nat} (hk : k < 40) (hm : m < 8) (hs6 : s < 65536) : Cl S rm_moveOf [.int (nI (s * 65536 + (8 * k + m + 1)))] h (Pu (.int (nI m)) h) := by
  show Ex S rm_moveOf 0 [some (.int (nI (s * 65536 + (8 * k + m + 1))))] [] h _
  refine Ex_iload_n d_rm_moveOf_0 rfl ?_
  refine Ex_ldc pi_rm_155 d_rm_moveOf_1 ?_
  refine Ex_iand d_rm_moveOf_3 ?_
  rw [show (((nI (s * 65536 + (8 * k + m + 1))) &&& (65535 : Int32)) : Int32) = (nI (8 * k + m + 1)) from w16t hk hm]
  refine Ex_iconst d_rm_moveOf_4 ic_1 ?_
  refine Ex_isubN (8 * k + m + 1) (1) d_rm_moveOf_5 rfl rfl (by omega) ?_
  refine Ex_bipush d_rm_moveOf_6 bp_7 ?_
  refine Ex_iand d_rm_moveOf_8 ?_
  rw [show (((nI ((8 * k + m + 1) - 1)) &&& (7 : Int32)) : Int32) = (nI ((8 * k + m + 1 - 1) % 8)) from nI_7 _]
  refine Ex_ireturn d_rm_moveOf_9 rfl ?_
  exact Pu_n (by omega)
theorem rm_shadeOf_s {S : mj_S} {h : mj_H} {k m s : Nat} (hk : k < 40) (hm : m < 8) (hs6 : s < 65536) : Cl S rm_shadeOf [.int (nI (s * 65536 + (8 * k + m + 1)))] h (Pu (.int (J (sg s))) h) := by
  show Ex S rm_shadeOf 0 [some (.int (nI (s * 65536 + (8 * k + m + 1))))] [] h _
  refine Ex_iload_n d_rm_shadeOf_0 rfl ?_
  refine Ex_bipush d_rm_shadeOf_1 bp_16 ?_
  refine Ex_ishr d_rm_shadeOf_3 ?_
  refine Ex_ireturn d_rm_shadeOf_4 rfl ?_
  exact Pu_i (shr16 hs6 (by omega))
theorem rm_moved_t {S : mj_S} {h : mj_H} (hs : HT h) {K : SK} (hK : KM K h) (hO : KO K) {k m s q : Nat} (hk : k < K.1) (hm : m < 8) (hs6 : s < 65536) (hq : q < 8) : Cl S rm_moved [.ref 38, .int (nI (s * 65536 + (8 * k + m + 1))), .int (nI (q))] h (Pu (.int (eM (mvT K (some (k, m, s)) q))) h) := by
  show Ex S rm_moved 0 [some (.ref 38), some (.int (nI (s * 65536 + (8 * k + m + 1)))), some (.int (nI (q)))] [] h _
  have hn40 := hO.1
  have hk40 : k < 40 := by omega
  refine Ex_iload_n d_rm_moved_0 rfl ?_
  refine Ex_if_ne 8 d_rm_moved_1 rfl (fun hc1 => ?_) (fun hc1 => ?_)
  · refine Ex_iload_n d_rm_moved_8 rfl ?_
    refine Ex_pS1 d_rm_moved_9 pk_rm_moved_156 (rm_kindOf_s hk40 hm hs6) ?_
    refine Ex_aload_n d_rm_moved_12 rfl ?_
    refine Ex_iload_n d_rm_moved_13 rfl ?_
    refine Ex_pS1 d_rm_moved_14 pk_rm_moved_156 (rm_kindOf_s hk40 hm hs6) ?_
    refine Ex_iload_n d_rm_moved_17 rfl ?_
    refine Ex_pS1 d_rm_moved_18 pk_rm_moved_160 (rm_moveOf_s hk40 hm hs6) ?_
    refine Ex_iload_n d_rm_moved_21 rfl ?_
    refine Ex_pS2 d_rm_moved_22 pk_rm_moved_141 (rm_thenMove_s hm hq) ?_
    refine Ex_pV2 d_rm_moved_25 pk_rm_moved_148 (t_38 hs) (rm_lies_s hs hK hO hk (thn_lt _ _)) ?_
    refine Ex_iload_n d_rm_moved_28 rfl ?_
    refine Ex_pS1 d_rm_moved_29 pk_rm_moved_163 (rm_shadeOf_s hk40 hm hs6) ?_
    refine Ex_pS3 d_rm_moved_32 pk_rm_moved_166 (rm_cell_s hk40 (kLie_lt hO hk) hs6) ?_
    refine Ex_ireturn d_rm_moved_35 rfl ?_
    exact ⟨rfl, rfl⟩
  · exact absurd (nI_inj32 (b := 0) (by omega) (by omega) hc1) (by omega)
theorem rm_moved_n {S : mj_S} {h : mj_H} {x : Int32} : Cl S rm_moved [.ref 38, .int (0), .int (x)] h (Pu (.int 0) h) := by
  show Ex S rm_moved 0 [some (.ref 38), some (.int (0)), some (.int (x))] [] h _
  refine Ex_iload_n d_rm_moved_0 rfl ?_
  refine Ex_if_neN (0) 8 d_rm_moved_1 rfl rfl (by omega) (fun hc1 => ?_) (fun hc1 => ?_)
  · exact absurd hc1 (by decide)
  · refine Ex_iconst d_rm_moved_4 ic_0 ?_
    refine Ex_goto 35 d_rm_moved_5 rfl ?_
    refine Ex_ireturn d_rm_moved_35 rfl ?_
    exact ⟨rfl, rfl⟩
theorem rm_moved_s {S : mj_S} {h : mj_H} (hs : HT h) {K : SK} (hK : KM K h) (hO : KO K) {c : Tl} (hc : okT K.1 c) {q : Nat} (hq : q < 8) : Cl S rm_moved [.ref 38, .int (eM c), .int (nI q)] h (Pu (.int (eM (mvT K c q))) h) := by
  match c, hc with
  | none, _ => exact rm_moved_n
  | some (k, m, s), hc => exact rm_moved_t hs hK hO hc.1 hc.2.1 hc.2.2 hq
theorem rm_fit_t {S : mj_S} {h : mj_H} (hs : HT h) {K : SK} (hK : KM K h) (hO : KO K) {k m s k2 m2 s2 e : Nat} (hk : k < K.1) (hm : m < 8) (hs6 : s < 65536) (hk2 : k2 < K.1) (hm2 : m2 < 8) (hs62 : s2 < 65536) (he : e < 4) : Cl S rm_fit [.ref 38, .int (nI (s * 65536 + (8 * k + m + 1))), .int (nI (s2 * 65536 + (8 * k2 + m2 + 1))), .int (nI (e))] h (Pu (.int (bI (fitT K (some (k, m, s)) (some (k2, m2, s2)) e))) h) := by
  show Ex S rm_fit 0 [some (.ref 38), some (.int (nI (s * 65536 + (8 * k + m + 1)))), some (.int (nI (s2 * 65536 + (8 * k2 + m2 + 1)))), some (.int (nI (e)))] [] h _
  have hn40 := hO.1
  have hk40 : k < 40 := by omega
  have hk240 : k2 < 40 := by omega
  refine Ex_iload_n d_rm_fit_0 rfl ?_
  refine Ex_if_eq 41 d_rm_fit_1 rfl (fun hc1 => ?_) (fun hc1 => ?_)
  · exact absurd (nI_inj32 (b := 0) (by omega) (by omega) hc1) (by omega)
  · refine Ex_iload_n d_rm_fit_4 rfl ?_
    refine Ex_if_eq 41 d_rm_fit_5 rfl (fun hc5 => ?_) (fun hc5 => ?_)
    · exact absurd (nI_inj32 (b := 0) (by omega) (by omega) hc5) (by omega)
    · refine Ex_aload_n d_rm_fit_8 rfl ?_
      refine Ex_iload_n d_rm_fit_9 rfl ?_
      refine Ex_pS1 d_rm_fit_10 pk_rm_fit_156 (rm_kindOf_s hk40 hm hs6) ?_
      refine Ex_iload_n d_rm_fit_13 rfl ?_
      refine Ex_pS1 d_rm_fit_14 pk_rm_fit_160 (rm_moveOf_s hk40 hm hs6) ?_
      refine Ex_iload_n d_rm_fit_17 rfl ?_
      refine Ex_pV3 d_rm_fit_18 pk_rm_fit_151 (t_38 hs) (rm_colour_s hs hK hO hk hm he) ?_
      refine Ex_aload_n d_rm_fit_21 rfl ?_
      refine Ex_iload_n d_rm_fit_22 rfl ?_
      refine Ex_pS1 d_rm_fit_23 pk_rm_fit_156 (rm_kindOf_s hk240 hm2 hs62) ?_
      refine Ex_iload_n d_rm_fit_26 rfl ?_
      refine Ex_pS1 d_rm_fit_27 pk_rm_fit_160 (rm_moveOf_s hk240 hm2 hs62) ?_
      refine Ex_iload_n d_rm_fit_30 rfl ?_
      refine Ex_iconst d_rm_fit_31 ic_2 ?_
      refine Ex_iaddN (e) (2) d_rm_fit_32 rfl rfl ?_
      refine Ex_iconst d_rm_fit_33 ic_3 ?_
      refine Ex_iand d_rm_fit_34 ?_
      rw [show (((nI (e + 2)) &&& (3 : Int32)) : Int32) = (nI ((e + 2) % 4)) from nI_3 _]
      refine Ex_pV3 d_rm_fit_35 pk_rm_fit_151 (t_38 hs) (rm_colour_s hs hK hO hk2 hm2 (by omega)) ?_
      refine Ex_icmp_neN (kCol K k m e) (kCol K k2 m2 ((e + 2) % 4)) 45 d_rm_fit_38 rfl rfl rfl (by (have := kCol_lt K k m e; have := kCol_lt K k2 m2 ((e + 2) % 4); omega)) (by (have := kCol_lt K k m e; have := kCol_lt K k2 m2 ((e + 2) % 4); omega)) (fun hc38 => ?_) (fun hc38 => ?_)
      · refine Ex_iconst d_rm_fit_45 ic_0 ?_
        refine Ex_zreturn d_rm_fit_46 rfl (by decide) ?_
        exact Pu_f (by assumption)
      · refine Ex_iconst d_rm_fit_41 ic_1 ?_
        refine Ex_goto 46 d_rm_fit_42 rfl ?_
        refine Ex_zreturn d_rm_fit_46 rfl (by decide) ?_
        exact Pu_t (by assumption)
