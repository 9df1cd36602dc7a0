/-! The class: words of the choices. -/
theorem bp_80 : (Int8.ofInt (80)).toInt32 = 80 := by decide
theorem ch_all_s {S : mj_S} {h : mj_H} (hs : HT h) {w : Nat} (hw : w < 5) : Cl S ch_all [.ref 8, .int (nI (w))] h (Pu (.long (mL h 10 (80 + w))) h) := by
  show Ex S ch_all 0 [some (.ref 8), some (.int (nI (w))), none] [] h _
  refine Ex_bipush d_ch_all_0 bp_80 ?_
  refine Ex_iload_n d_ch_all_2 rfl ?_
  refine Ex_iaddN (80) (w) d_ch_all_3 rfl rfl ?_
  refine Ex_istore_n [some (.ref 8), some (.int (nI (w))), some (.int (nI (80 + w)))] d_ch_all_4 (Nat.le_of_ble_eq_true rfl) rfl ?_
  refine Ex_iload_n d_ch_all_5 rfl ?_
  refine Ex_if_ltN (80 + w) 27 d_ch_all_6 rfl rfl (by omega) (fun hc6 => ?_) (fun hc6 => ?_)
  · exfalso; omega
  · refine Ex_iload_n d_ch_all_9 rfl ?_
    refine Ex_aload_n d_ch_all_10 rfl ?_
    refine Ex_getR (v := .ref 10) d_ch_all_11 pf_ch_17 rfl (t_8 hs) (r_8_3 hs) ?_
    refine Ex_arraylength d_ch_all_14 (t_10 hs) (by decide) ?_
    refine Ex_icmp_geN (80 + w) (340) 27 d_ch_all_15 rfl rfl rfl (by omega) (by omega) (fun hc15 => ?_) (fun hc15 => ?_)
    · exfalso; omega
    · refine Ex_aload_n d_ch_all_18 rfl ?_
      refine Ex_getR (v := .ref 10) d_ch_all_19 pf_ch_17 rfl (t_8 hs) (r_8_3 hs) ?_
      refine Ex_iload_n d_ch_all_22 rfl ?_
      refine Ex_laloadN (a := 80 + w) (w := (mL h 10 (80 + w))) d_ch_all_23 (t_10 hs) rfl (by omega) (by decide) rfl ?_
      refine Ex_goto 28 d_ch_all_24 rfl ?_
      refine Ex_lreturn d_ch_all_28 rfl ?_
      exact ⟨rfl, rfl⟩
