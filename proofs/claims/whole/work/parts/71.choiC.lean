/-! The class: choices. -/
abbrev okN (K : SK) (F : SF) (f n : Nat) : Prop := 0 < fS F f (n / 8) ∧ kLie K (n / 8) (n % 8) = n % 8
def CdC (K : SK) (F : SF) (f s : Nat) (cd : Nat → Nat) (h : mj_H) : Prop := EnO (okN K F f) (8 * K.1) s cd ∧ mI h 8 1 = nI s ∧ ∀ c, c < s → mI h 9 c = nI (cd c)
theorem ch_codeOf_v {S : mj_S} {h : mj_H} (hs : HT h) {K : SK} (hO : KO K) {F : SF} {f s : Nat} {cd : Nat → Nat} (hC : CdC K F f s cd h) {c : Nat} (hc : c < s) : Cl S ch_codeOf [.ref 8, .int (nI (c))] h (Pu (.int (nI (cd c))) h) := by
  show Ex S ch_codeOf 0 [some (.ref 8), some (.int (nI (c)))] [] h _
  have hk40 := hO.1
  have hs320 := EnO_le hC.1
  refine Ex_iload_n d_ch_codeOf_0 rfl ?_
  refine Ex_if_ltN (c) 21 d_ch_codeOf_1 rfl rfl (by omega) (fun hc1 => ?_) (fun hc1 => ?_)
  · exfalso; omega
  · refine Ex_iload_n d_ch_codeOf_4 rfl ?_
    refine Ex_aload_n d_ch_codeOf_5 rfl ?_
    refine Ex_getIE (y := (nI (s))) d_ch_codeOf_6 pf_ch_25 rfl (t_8 hs) hC.2.1 ?_
    refine Ex_icmp_geN (c) (s) 21 d_ch_codeOf_9 rfl rfl rfl (by omega) (by omega) (fun hc9 => ?_) (fun hc9 => ?_)
    · exfalso; omega
    · refine Ex_aload_n d_ch_codeOf_12 rfl ?_
      refine Ex_getR (v := .ref 9) d_ch_codeOf_13 pf_ch_13 rfl (t_8 hs) (r_8_2 hs) ?_
      refine Ex_iload_n d_ch_codeOf_16 rfl ?_
      refine Ex_ialoadN (a := c) (y := (nI (cd c))) d_ch_codeOf_17 (t_9 hs) rfl (by omega) (by decide) (hC.2.2 c hc) ?_
      refine Ex_goto 22 d_ch_codeOf_18 rfl ?_
      refine Ex_ireturn d_ch_codeOf_22 rfl ?_
      exact ⟨rfl, rfl⟩
theorem ch_codeOf_n {S : mj_S} {h : mj_H} : Cl S ch_codeOf [.ref 8, .int (-1)] h (Pu (.int (-1)) h) := by
  show Ex S ch_codeOf 0 [some (.ref 8), some (.int (-1))] [] h _
  refine Ex_iload_n d_ch_codeOf_0 rfl ?_
  refine Ex_if_ltZ ((-1)) 21 d_ch_codeOf_1 rfl (by decide) (by omega) (fun hc1 => ?_) (fun hc1 => ?_)
  · refine Ex_iconst d_ch_codeOf_21 ic_m1 ?_
    refine Ex_ireturn d_ch_codeOf_22 rfl ?_
    exact ⟨rfl, rfl⟩
  · exact absurd hc1 (by decide)
theorem ch_kindOf_v {S : mj_S} {h : mj_H} (hs : HT h) {K : SK} (hO : KO K) {F : SF} {f s : Nat} {cd : Nat → Nat} (hC : CdC K F f s cd h) {c : Nat} (hc : c < s) : Cl S ch_kindOf [.ref 8, .int (nI (c))] h (Pu (.int (nI (cd c / 8))) h) := by
  show Ex S ch_kindOf 0 [some (.ref 8), some (.int (nI (c)))] [] h _
  have hk40 := hO.1
  have hs320 := EnO_le hC.1
  have hcd := (hC.1.1 c hc).1
  refine Ex_iload_n d_ch_kindOf_0 rfl ?_
  refine Ex_if_ltN (c) 23 d_ch_kindOf_1 rfl rfl (by omega) (fun hc1 => ?_) (fun hc1 => ?_)
  · exfalso; omega
  · refine Ex_iload_n d_ch_kindOf_4 rfl ?_
    refine Ex_aload_n d_ch_kindOf_5 rfl ?_
    refine Ex_getIE (y := (nI (s))) d_ch_kindOf_6 pf_ch_25 rfl (t_8 hs) hC.2.1 ?_
    refine Ex_icmp_geN (c) (s) 23 d_ch_kindOf_9 rfl rfl rfl (by omega) (by omega) (fun hc9 => ?_) (fun hc9 => ?_)
    · exfalso; omega
    · refine Ex_aload_n d_ch_kindOf_12 rfl ?_
      refine Ex_getR (v := .ref 9) d_ch_kindOf_13 pf_ch_13 rfl (t_8 hs) (r_8_2 hs) ?_
      refine Ex_iload_n d_ch_kindOf_16 rfl ?_
      refine Ex_ialoadN (a := c) (y := (nI (cd c))) d_ch_kindOf_17 (t_9 hs) rfl (by omega) (by decide) (hC.2.2 c hc) ?_
      refine Ex_iconst d_ch_kindOf_18 ic_3 ?_
      refine Ex_ishr d_ch_kindOf_19 ?_
      rw [show (((nI (cd c)) >>> ((3 : Int32) &&& 31)) : Int32) = (nI (cd c / 2 ^ 3)) from (nI_shr (j := 3) (by omega) (by decide))]
      refine Ex_goto 24 d_ch_kindOf_20 rfl ?_
      refine Ex_ireturn d_ch_kindOf_24 rfl ?_
      exact ⟨rfl, rfl⟩
theorem ch_colourOf_v {S : mj_S} {h : mj_H} (hs : HT h) {K : SK} (hK : KC K h) (hO : KO K) {n : Nat} (hn : n < 8 * K.1) {e : Nat} (he : e < 4) : Cl S ch_colourOf [.ref 8, .int (nI (n)), .int (nI (e))] h (Pu (.int (nI (kCol K (n / 8) (n % 8) e))) h) := by
  show Ex S ch_colourOf 0 [some (.ref 8), some (.int (nI (n))), some (.int (nI (e)))] [] h _
  have hk40 := hO.1
  refine Ex_iload_n d_ch_colourOf_0 rfl ?_
  refine Ex_if_geN (n) 9 d_ch_colourOf_1 rfl rfl (by omega) (fun hc1 => ?_) (fun hc1 => ?_)
  · refine Ex_aload_n d_ch_colourOf_9 rfl ?_
    refine Ex_getR (v := .ref 1) d_ch_colourOf_10 pf_ch_21 rfl (t_8 hs) (r_8_0 hs) ?_
    refine Ex_iload_n d_ch_colourOf_13 rfl ?_
    refine Ex_iconst d_ch_colourOf_14 ic_3 ?_
    refine Ex_ishr d_ch_colourOf_15 ?_
    rw [show (((nI (n)) >>> ((3 : Int32) &&& 31)) : Int32) = (nI (n / 2 ^ 3)) from (nI_shr (j := 3) (by omega) (by decide))]
    refine Ex_iload_n d_ch_colourOf_16 rfl ?_
    refine Ex_bipush d_ch_colourOf_17 bp_7 ?_
    refine Ex_iand d_ch_colourOf_19 ?_
    rw [show (((nI (n)) &&& (7 : Int32)) : Int32) = (nI (n % 8)) from (nI_7 _)]
    refine Ex_iload_n d_ch_colourOf_20 rfl ?_
    refine Ex_pV3 (v := .int (nI (kCol K (n / 2 ^ 3) (n % 8) e))) d_ch_colourOf_21 pk_ch_colourOf_59 (t_1 hs) (ki_colour_s hs hK hO (by omega) (by omega) he) ?_
    refine Ex_ireturn d_ch_colourOf_24 rfl ?_
    exact ⟨rfl, rfl⟩
  · exfalso; omega
theorem ch_colourOf_m1 {S : mj_S} {h : mj_H} {x : Int32} : Cl S ch_colourOf [.ref 8, .int (-1), .int (x)] h (Pu (.int (nI 16)) h) := by
  show Ex S ch_colourOf 0 [some (.ref 8), some (.int (-1)), some (.int (x))] [] h _
  refine Ex_iload_n d_ch_colourOf_0 rfl ?_
  refine Ex_if_geZ ((-1)) 9 d_ch_colourOf_1 rfl (by decide) (by omega) (fun hc1 => ?_) (fun hc1 => ?_)
  · exact absurd hc1 (by decide)
  · refine Ex_bipush d_ch_colourOf_4 bp_16 ?_
    refine Ex_goto 24 d_ch_colourOf_6 rfl ?_
    refine Ex_ireturn d_ch_colourOf_24 rfl ?_
    exact ⟨rfl, rfl⟩
theorem ch_colourOf_m2 {S : mj_S} {h : mj_H} {x : Int32} : Cl S ch_colourOf [.ref 8, .int (-2), .int (x)] h (Pu (.int (nI 16)) h) := by
  show Ex S ch_colourOf 0 [some (.ref 8), some (.int (-2)), some (.int (x))] [] h _
  refine Ex_iload_n d_ch_colourOf_0 rfl ?_
  refine Ex_if_geZ ((-2)) 9 d_ch_colourOf_1 rfl (by decide) (by omega) (fun hc1 => ?_) (fun hc1 => ?_)
  · exact absurd hc1 (by decide)
  · refine Ex_bipush d_ch_colourOf_4 bp_16 ?_
    refine Ex_goto 24 d_ch_colourOf_6 rfl ?_
    refine Ex_ireturn d_ch_colourOf_24 rfl ?_
    exact ⟨rfl, rfl⟩
