/-! The class: words of the choices. -/
theorem ch_withColour_s {S : mj_S} {h : mj_H} (hs : HT h) {e c w : Nat} (he : e < 4) (hc : c < 17) (hw : w < 5) : Cl S ch_withColour [.ref 8, .int (nI (e)), .int (nI (c)), .int (nI (w))] h (Pu (.long (mL h 10 ((e * 17 + c) * 5 + w))) h) := by
  show Ex S ch_withColour 0 [some (.ref 8), some (.int (nI (e))), some (.int (nI (c))), some (.int (nI (w))), none] [] h _
  refine Ex_iload_n d_ch_withColour_0 rfl ?_
  refine Ex_bipush d_ch_withColour_1 bp_17 ?_
  refine Ex_imulN (e) (17) d_ch_withColour_3 rfl rfl ?_
  refine Ex_iload_n d_ch_withColour_4 rfl ?_
  refine Ex_iaddN (e * 17) (c) d_ch_withColour_5 rfl rfl ?_
  refine Ex_iconst d_ch_withColour_6 ic_5 ?_
  refine Ex_imulN ((e * 17) + c) (5) d_ch_withColour_7 rfl rfl ?_
  refine Ex_iload_n d_ch_withColour_8 rfl ?_
  refine Ex_iaddN (((e * 17) + c) * 5) (w) d_ch_withColour_9 rfl rfl ?_
  refine Ex_istore [some (.ref 8), some (.int (nI (e))), some (.int (nI (c))), some (.int (nI (w))), some (.int (nI ((((e * 17) + c) * 5) + w)))] d_ch_withColour_10 (Nat.le_of_ble_eq_true rfl) rfl ?_
  refine Ex_iload d_ch_withColour_12 rfl ?_
  refine Ex_if_ltN ((((e * 17) + c) * 5) + w) 37 d_ch_withColour_14 rfl rfl (by omega) (fun hc14 => ?_) (fun hc14 => ?_)
  · exfalso; omega
  · refine Ex_iload d_ch_withColour_17 rfl ?_
    refine Ex_aload_n d_ch_withColour_19 rfl ?_
    refine Ex_getR (v := .ref 10) d_ch_withColour_20 pf_ch_17 rfl (t_8 hs) (r_8_3 hs) ?_
    refine Ex_arraylength d_ch_withColour_23 (t_10 hs) (by decide) ?_
    refine Ex_icmp_geN ((((e * 17) + c) * 5) + w) (340) 37 d_ch_withColour_24 rfl rfl rfl (by omega) (by omega) (fun hc24 => ?_) (fun hc24 => ?_)
    · exfalso; omega
    · refine Ex_aload_n d_ch_withColour_27 rfl ?_
      refine Ex_getR (v := .ref 10) d_ch_withColour_28 pf_ch_17 rfl (t_8 hs) (r_8_3 hs) ?_
      refine Ex_iload d_ch_withColour_31 rfl ?_
      refine Ex_laloadN (a := (((e * 17) + c) * 5) + w) (w := (mL h 10 ((((e * 17) + c) * 5) + w))) d_ch_withColour_33 (t_10 hs) rfl (by omega) (by decide) rfl ?_
      refine Ex_goto 38 d_ch_withColour_34 rfl ?_
      refine Ex_lreturn d_ch_withColour_38 rfl ?_
      exact ⟨rfl, rfl⟩
