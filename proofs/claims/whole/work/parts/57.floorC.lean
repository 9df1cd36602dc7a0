/-! The class: floor, place, stock, shown; about on both sides. -/
theorem fl_mayBe_s {S : mj_S} {h : mj_H} {r c : Int} (hr : -2147483648 ≤ r ∧ r < 2147483648) (hc : -2147483648 ≤ c ∧ c < 2147483648) : Cl S fl_mayBe [.int (J (r)), .int (J (c))] h (Pu (.int (bI (decide (1 ≤ r ∧ r ≤ 8 ∧ 1 ≤ c ∧ c ≤ 8)))) h) := by
  show Ex S fl_mayBe 0 [some (.int (J (r))), some (.int (J (c)))] [] h _
  refine Ex_iload_n d_fl_mayBe_0 rfl ?_
  refine Ex_iconst d_fl_mayBe_1 ic_1 ?_
  refine Ex_icmp_ltZ (r) ((1)) 26 d_fl_mayBe_2 rfl rfl (by decide) (by omega) (by omega) (fun hc2 => ?_) (fun hc2 => ?_)
  · refine Ex_iconst d_fl_mayBe_26 ic_0 ?_
    refine Ex_zreturn d_fl_mayBe_27 rfl (by decide) ?_
    exact Pu_f (by omega)
  · refine Ex_iload_n d_fl_mayBe_5 rfl ?_
    refine Ex_bipush d_fl_mayBe_6 bp_8 ?_
    refine Ex_icmp_gtZ (r) ((8)) 26 d_fl_mayBe_8 rfl rfl (by decide) (by omega) (by omega) (fun hc8 => ?_) (fun hc8 => ?_)
    · refine Ex_iconst d_fl_mayBe_26 ic_0 ?_
      refine Ex_zreturn d_fl_mayBe_27 rfl (by decide) ?_
      exact Pu_f (by omega)
    · refine Ex_iload_n d_fl_mayBe_11 rfl ?_
      refine Ex_iconst d_fl_mayBe_12 ic_1 ?_
      refine Ex_icmp_ltZ (c) ((1)) 26 d_fl_mayBe_13 rfl rfl (by decide) (by omega) (by omega) (fun hc13 => ?_) (fun hc13 => ?_)
      · refine Ex_iconst d_fl_mayBe_26 ic_0 ?_
        refine Ex_zreturn d_fl_mayBe_27 rfl (by decide) ?_
        exact Pu_f (by omega)
      · refine Ex_iload_n d_fl_mayBe_16 rfl ?_
        refine Ex_bipush d_fl_mayBe_17 bp_8 ?_
        refine Ex_icmp_gtZ (c) ((8)) 26 d_fl_mayBe_19 rfl rfl (by decide) (by omega) (by omega) (fun hc19 => ?_) (fun hc19 => ?_)
        · refine Ex_iconst d_fl_mayBe_26 ic_0 ?_
          refine Ex_zreturn d_fl_mayBe_27 rfl (by decide) ?_
          exact Pu_f (by omega)
        · refine Ex_iconst d_fl_mayBe_22 ic_1 ?_
          refine Ex_goto 27 d_fl_mayBe_23 rfl ?_
          refine Ex_zreturn d_fl_mayBe_27 rfl (by decide) ?_
          exact Pu_t (by omega)
theorem fl_hasPlace_s {S : mj_S} {h : mj_H} {F : SF} {Y : OW} {n : Nat} (hFO : FO n F) {f a b c d : Nat} (hf : f < F.1) (hx : FlC1 F Y h f a b c d) {i j : Int} (hi : -2147483648 ≤ i ∧ i < 2147483648) (hj : -2147483648 ≤ j ∧ j < 2147483648) : Cl S fl_hasPlace [.ref (a), .int (J (i)), .int (J (j))] h (Pu (.int (bI (decide (0 ≤ i ∧ i < fR F f ∧ 0 ≤ j ∧ j < fC F f)))) h) := by
  show Ex S fl_hasPlace 0 [some (.ref (a)), some (.int (J (i))), some (.int (J (j)))] [] h _
  obtain ⟨hz, ho, hst⟩ := hFO.2.2 f hf
  refine Ex_iload_n d_fl_hasPlace_0 rfl ?_
  refine Ex_if_ltZ (i) 28 d_fl_hasPlace_1 rfl rfl (by omega) (fun hc1 => ?_) (fun hc1 => ?_)
  · refine Ex_iconst d_fl_hasPlace_28 ic_0 ?_
    refine Ex_zreturn d_fl_hasPlace_29 rfl (by decide) ?_
    exact Pu_f (by omega)
  · refine Ex_iload_n d_fl_hasPlace_4 rfl ?_
    refine Ex_aload_n d_fl_hasPlace_5 rfl ?_
    refine Ex_getIE (y := (nI (fR F f))) d_fl_hasPlace_6 pf_fl_23 rfl hx.2.1.2.1 hx.2.2.1.1 ?_
    refine Ex_icmp_geZ (i) (((fR F f : Nat) : Int)) 28 d_fl_hasPlace_9 rfl rfl (nIJ _) (by omega) (by omega) (fun hc9 => ?_) (fun hc9 => ?_)
    · refine Ex_iconst d_fl_hasPlace_28 ic_0 ?_
      refine Ex_zreturn d_fl_hasPlace_29 rfl (by decide) ?_
      exact Pu_f (by omega)
    · refine Ex_iload_n d_fl_hasPlace_12 rfl ?_
      refine Ex_if_ltZ (j) 28 d_fl_hasPlace_13 rfl rfl (by omega) (fun hc13 => ?_) (fun hc13 => ?_)
      · refine Ex_iconst d_fl_hasPlace_28 ic_0 ?_
        refine Ex_zreturn d_fl_hasPlace_29 rfl (by decide) ?_
        exact Pu_f (by omega)
      · refine Ex_iload_n d_fl_hasPlace_16 rfl ?_
        refine Ex_aload_n d_fl_hasPlace_17 rfl ?_
        refine Ex_getIE (y := (nI (fC F f))) d_fl_hasPlace_18 pf_fl_27 rfl hx.2.1.2.1 hx.2.2.1.2 ?_
        refine Ex_icmp_geZ (j) (((fC F f : Nat) : Int)) 28 d_fl_hasPlace_21 rfl rfl (nIJ _) (by omega) (by omega) (fun hc21 => ?_) (fun hc21 => ?_)
        · refine Ex_iconst d_fl_hasPlace_28 ic_0 ?_
          refine Ex_zreturn d_fl_hasPlace_29 rfl (by decide) ?_
          exact Pu_f (by omega)
        · refine Ex_iconst d_fl_hasPlace_24 ic_1 ?_
          refine Ex_goto 29 d_fl_hasPlace_25 rfl ?_
          refine Ex_zreturn d_fl_hasPlace_29 rfl (by decide) ?_
          exact Pu_t (by omega)
theorem fl_setPlace_s {S : mj_S} {h : mj_H} {F : SF} {Y : OW} {n : Nat} (hFO : FO n F) {f a b c d : Nat} (hf : f < F.1) (hx : FlC1 F Y h f a b c d) {i j : Nat} (hi : i < fR F f) (hj : j < fC F f) (v : Int32) : Cl S fl_setPlace [.ref (a), .int (nI (i)), .int (nI (j)), .int (v)] h (fun r h' => r = none ∧ h' = wI (wI h b (i * 8 + j) v) c (i * 8 + j) (-1)) := by
  show Ex S fl_setPlace 0 [some (.ref (a)), some (.int (nI (i))), some (.int (nI (j))), some (.int (v))] [] h _
  obtain ⟨hz, ho, hst⟩ := hFO.2.2 f hf
  refine Ex_aload_n d_fl_setPlace_0 rfl ?_
  refine Ex_iload_n d_fl_setPlace_1 rfl ?_
  refine Ex_iload_n d_fl_setPlace_2 rfl ?_
  refine Ex_pV2 (v := .int (bI (true))) d_fl_setPlace_3 pk_fl_setPlace_36 hx.2.1.2.1 (show Cl S fl_hasPlace [.ref a, .int (nI i), .int (nI j)] h _ by rw [nIJ i, nIJ j]; have z := fl_hasPlace_s (S := S) hFO hf hx (i := (i : Int)) (j := (j : Int)) (by omega) (by omega); rw [decide_eq_true (by omega)] at z; exact z) ?_
  refine Ex_if_eqB (true) 33 d_fl_setPlace_6 rfl rfl (fun hc6 => ?_) (fun hc6 => ?_)
  · cases hc6
  · refine Ex_aload_n d_fl_setPlace_9 rfl ?_
    refine Ex_getR (v := .ref (b)) d_fl_setPlace_10 pf_fl_11 rfl hx.2.1.2.1 (congrArg va_rf hx.2.1.2.2.1) ?_
    refine Ex_iload_n d_fl_setPlace_13 rfl ?_
    refine Ex_bipush d_fl_setPlace_14 bp_8 ?_
    refine Ex_imulN (i) (8) d_fl_setPlace_16 rfl rfl ?_
    refine Ex_iload_n d_fl_setPlace_17 rfl ?_
    refine Ex_iaddN (i * 8) (j) d_fl_setPlace_18 rfl rfl ?_
    refine Ex_iload_n d_fl_setPlace_19 rfl ?_
    refine Ex_iastoreN (a := (i * 8) + j) d_fl_setPlace_20 hx.2.1.2.2.2.2.2.1 rfl (by omega) (by decide) ?_
    refine Ex_aload_n d_fl_setPlace_21 rfl ?_
    refine Ex_getR (v := .ref (c)) d_fl_setPlace_22 pf_fl_15 rfl hx.2.1.2.1 (congrArg va_rf hx.2.1.2.2.2.1) ?_
    refine Ex_iload_n d_fl_setPlace_25 rfl ?_
    refine Ex_bipush d_fl_setPlace_26 bp_8 ?_
    refine Ex_imulN (i) (8) d_fl_setPlace_28 rfl rfl ?_
    refine Ex_iload_n d_fl_setPlace_29 rfl ?_
    refine Ex_iaddN (i * 8) (j) d_fl_setPlace_30 rfl rfl ?_
    refine Ex_iconst d_fl_setPlace_31 ic_m1 ?_
    refine Ex_iastoreN (a := (i * 8) + j) d_fl_setPlace_32 hx.2.1.2.2.2.2.2.2.1 rfl (by omega) (by decide) ?_
    refine Ex_return d_fl_setPlace_33 rfl ?_
    exact ⟨rfl, rfl⟩
theorem fl_placeAt_s {S : mj_S} {h : mj_H} {F : SF} {Y : OW} {n : Nat} (hFO : FO n F) {f a b c d : Nat} (hf : f < F.1) (hx : FlC1 F Y h f a b c d) {k : Nat} (hk : k < 64) : Cl S fl_placeAt [.ref (a), .int (nI (k))] h (Pu (.int (cT (fT F f k))) h) := by
  show Ex S fl_placeAt 0 [some (.ref (a)), some (.int (nI (k)))] [] h _
  refine Ex_iload_n d_fl_placeAt_0 rfl ?_
  refine Ex_if_ltN (k) 19 d_fl_placeAt_1 rfl rfl (by omega) (fun hc1 => ?_) (fun hc1 => ?_)
  · exfalso; omega
  · refine Ex_iload_n d_fl_placeAt_4 rfl ?_
    refine Ex_bipush d_fl_placeAt_5 bp_64 ?_
    refine Ex_icmp_geN (k) (64) 19 d_fl_placeAt_7 rfl rfl rfl (by omega) (by omega) (fun hc7 => ?_) (fun hc7 => ?_)
    · exfalso; omega
    · refine Ex_aload_n d_fl_placeAt_10 rfl ?_
      refine Ex_getR (v := .ref (b)) d_fl_placeAt_11 pf_fl_11 rfl hx.2.1.2.1 (congrArg va_rf hx.2.1.2.2.1) ?_
      refine Ex_iload_n d_fl_placeAt_14 rfl ?_
      refine Ex_ialoadN (a := k) (y := (cT (fT F f k))) d_fl_placeAt_15 hx.2.1.2.2.2.2.2.1 rfl (by omega) (by decide) (hx.2.2.2.1 k hk).1 ?_
      refine Ex_goto 21 d_fl_placeAt_16 rfl ?_
      refine Ex_ireturn d_fl_placeAt_21 rfl ?_
      exact ⟨rfl, rfl⟩
theorem fl_stockOf_s {S : mj_S} {h : mj_H} {F : SF} {Y : OW} {n : Nat} (hFO : FO n F) {f a b c d : Nat} (hf : f < F.1) (hx : FlC1 F Y h f a b c d) {k : Nat} (hk : k < 40) : Cl S fl_stockOf [.ref (a), .int (nI (k))] h (Pu (.int (nI (fS F f k))) h) := by
  show Ex S fl_stockOf 0 [some (.ref (a)), some (.int (nI (k)))] [] h _
  refine Ex_iload_n d_fl_stockOf_0 rfl ?_
  refine Ex_if_ltN (k) 19 d_fl_stockOf_1 rfl rfl (by omega) (fun hc1 => ?_) (fun hc1 => ?_)
  · exfalso; omega
  · refine Ex_iload_n d_fl_stockOf_4 rfl ?_
    refine Ex_bipush d_fl_stockOf_5 bp_40 ?_
    refine Ex_icmp_geN (k) (40) 19 d_fl_stockOf_7 rfl rfl rfl (by omega) (by omega) (fun hc7 => ?_) (fun hc7 => ?_)
    · exfalso; omega
    · refine Ex_aload_n d_fl_stockOf_10 rfl ?_
      refine Ex_getR (v := .ref (d)) d_fl_stockOf_11 pf_fl_20 rfl hx.2.1.2.1 (congrArg va_rf hx.2.1.2.2.2.2.1) ?_
      refine Ex_iload_n d_fl_stockOf_14 rfl ?_
      refine Ex_ialoadN (a := k) (y := (nI (fS F f k))) d_fl_stockOf_15 hx.2.1.2.2.2.2.2.2.2 rfl (by omega) (by decide) (hx.2.2.2.2 k hk) ?_
      refine Ex_goto 20 d_fl_stockOf_16 rfl ?_
      refine Ex_ireturn d_fl_stockOf_20 rfl ?_
      exact ⟨rfl, rfl⟩
theorem fl_setStock_s {S : mj_S} {h : mj_H} {F : SF} {Y : OW} {n : Nat} (hFO : FO n F) {f a b c d : Nat} (hf : f < F.1) (hx : FlC1 F Y h f a b c d) {k : Nat} (hk : k < 40) (v : Int32) : Cl S fl_setStock [.ref (a), .int (nI (k)), .int (v)] h (fun r h' => r = none ∧ h' = wI h d k v) := by
  show Ex S fl_setStock 0 [some (.ref (a)), some (.int (nI (k))), some (.int (v))] [] h _
  refine Ex_iload_n d_fl_setStock_0 rfl ?_
  refine Ex_if_ltN (k) 17 d_fl_setStock_1 rfl rfl (by omega) (fun hc1 => ?_) (fun hc1 => ?_)
  · exfalso; omega
  · refine Ex_iload_n d_fl_setStock_4 rfl ?_
    refine Ex_bipush d_fl_setStock_5 bp_40 ?_
    refine Ex_icmp_geN (k) (40) 17 d_fl_setStock_7 rfl rfl rfl (by omega) (by omega) (fun hc7 => ?_) (fun hc7 => ?_)
    · exfalso; omega
    · refine Ex_aload_n d_fl_setStock_10 rfl ?_
      refine Ex_getR (v := .ref (d)) d_fl_setStock_11 pf_fl_20 rfl hx.2.1.2.1 (congrArg va_rf hx.2.1.2.2.2.2.1) ?_
      refine Ex_iload_n d_fl_setStock_14 rfl ?_
      refine Ex_iload_n d_fl_setStock_15 rfl ?_
      refine Ex_iastoreN (a := k) d_fl_setStock_16 hx.2.1.2.2.2.2.2.2.2 rfl (by omega) (by decide) ?_
      refine Ex_return d_fl_setStock_17 rfl ?_
      exact ⟨rfl, rfl⟩
theorem fl_showAt_s {S : mj_S} {h : mj_H} {F : SF} {Y : OW} {n : Nat} (hFO : FO n F) {f a b c d : Nat} (hf : f < F.1) (hx : FlC1 F Y h f a b c d) {k : Nat} (hk : k < 64) (v : Int32) : Cl S fl_showAt [.ref (a), .int (nI (k)), .int (v)] h (fun r h' => r = none ∧ h' = wI h c k v) := by
  show Ex S fl_showAt 0 [some (.ref (a)), some (.int (nI (k))), some (.int (v))] [] h _
  refine Ex_iload_n d_fl_showAt_0 rfl ?_
  refine Ex_if_ltN (k) 17 d_fl_showAt_1 rfl rfl (by omega) (fun hc1 => ?_) (fun hc1 => ?_)
  · exfalso; omega
  · refine Ex_iload_n d_fl_showAt_4 rfl ?_
    refine Ex_bipush d_fl_showAt_5 bp_64 ?_
    refine Ex_icmp_geN (k) (64) 17 d_fl_showAt_7 rfl rfl rfl (by omega) (by omega) (fun hc7 => ?_) (fun hc7 => ?_)
    · exfalso; omega
    · refine Ex_aload_n d_fl_showAt_10 rfl ?_
      refine Ex_getR (v := .ref (c)) d_fl_showAt_11 pf_fl_15 rfl hx.2.1.2.1 (congrArg va_rf hx.2.1.2.2.2.1) ?_
      refine Ex_iload_n d_fl_showAt_14 rfl ?_
      refine Ex_iload_n d_fl_showAt_15 rfl ?_
      refine Ex_iastoreN (a := k) d_fl_showAt_16 hx.2.1.2.2.2.2.2.2.1 rfl (by omega) (by decide) ?_
      refine Ex_return d_fl_showAt_17 rfl ?_
      exact ⟨rfl, rfl⟩
theorem fl_showNothing_s {S : mj_S} {h : mj_H} {F : SF} {Y : OW} {n : Nat} (hFO : FO n F) {f a b c d : Nat} (hf : f < F.1) (hx : FlC1 F Y h f a b c d) : Cl S fl_showNothing [.ref (a)] h (fun r h' => r = none ∧ h' = wA h c (flF (mI h c) (-1) 64)) := by
  show Ex S fl_showNothing 0 [some (.ref (a))] [] h _
  refine Ex_aload_n d_fl_showNothing_0 rfl ?_
  refine Ex_getR (v := .ref (c)) d_fl_showNothing_1 pf_fl_15 rfl hx.2.1.2.1 (congrArg va_rf hx.2.1.2.2.2.1) ?_
  refine Ex_iconst d_fl_showNothing_4 ic_m1 ?_
  refine Ex_cS2 d_fl_showNothing_5 pk_fl_showNothing_30 (jd_fillI_s (m := 64) hx.2.1.2.2.2.2.2.2.1 (by omega)) ?_
  rintro rv hh ⟨rfl, rfl⟩
  show Ex S fl_showNothing 8 [some (.ref (a))] [] (wA h c (flF (mI h c) (-1) 64)) _
  refine Ex_return d_fl_showNothing_8 rfl ?_
  exact ⟨rfl, rfl⟩
theorem fl_shownAt_s {S : mj_S} {h : mj_H} {F : SF} {Y : OW} {n : Nat} (hFO : FO n F) {f a b c d : Nat} (hf : f < F.1) (hx : FlC1 F Y h f a b c d) (hn : n ≤ 40) {i j : Nat} (hi : i < fR F f) (hj : j < fC F f) : Cl S fl_shownAt [.ref (a), .int (nI (i)), .int (nI (j))] h (Pu (.int (J (vT (fT F f (8 * i + j)) (fL F f (8 * i + j))))) h) := by
  show Ex S fl_shownAt 0 [some (.ref (a)), some (.int (nI (i))), some (.int (nI (j))), none] [] h _
  obtain ⟨hz, ho, hst⟩ := hFO.2.2 f hf
  refine Ex_aload_n d_fl_shownAt_0 rfl ?_
  refine Ex_iload_n d_fl_shownAt_1 rfl ?_
  refine Ex_iload_n d_fl_shownAt_2 rfl ?_
  refine Ex_pV2 (v := .int (bI (true))) d_fl_shownAt_3 pk_fl_shownAt_36 hx.2.1.2.1 (show Cl S fl_hasPlace [.ref a, .int (nI i), .int (nI j)] h _ by rw [nIJ i, nIJ j]; have z := fl_hasPlace_s (S := S) hFO hf hx (i := (i : Int)) (j := (j : Int)) (by omega) (by omega); rw [decide_eq_true (by omega)] at z; exact z) ?_
  refine Ex_if_neB (true) 12 d_fl_shownAt_6 rfl rfl (fun hc6 => ?_) (fun hc6 => ?_)
  · refine Ex_iload_n d_fl_shownAt_12 rfl ?_
    refine Ex_bipush d_fl_shownAt_13 bp_8 ?_
    refine Ex_imulN (i) (8) d_fl_shownAt_15 rfl rfl ?_
    refine Ex_iload_n d_fl_shownAt_16 rfl ?_
    refine Ex_iaddN (i * 8) (j) d_fl_shownAt_17 rfl rfl ?_
    refine Ex_istore_n [some (.ref (a)), some (.int (nI (i))), some (.int (nI (j))), some (.int (nI ((i * 8) + j)))] d_fl_shownAt_18 (Nat.le_of_ble_eq_true rfl) rfl ?_
    obtain ⟨v1, v2⟩ := hx.2.2.2.1 (i * 8 + j) (by omega)
    obtain ⟨o1, o2⟩ := ho (i * 8 + j) (by omega)
    rw [show 8 * i + j = i * 8 + j by omega]
    match ht : fT F f (i * 8 + j), o1 with
    | some (some (k1, m1)), o1 =>
      have hk40 : k1 < n := o1.1
      have hm8 : m1 < 8 := o1.2
      refine Ex_aload_n d_fl_shownAt_19 rfl ?_
      refine Ex_getR (v := .ref (b)) d_fl_shownAt_20 pf_fl_11 rfl hx.2.1.2.1 (congrArg va_rf hx.2.1.2.2.1) ?_
      refine Ex_iload_n d_fl_shownAt_23 rfl ?_
      refine Ex_ialoadN (a := (i * 8) + j) (y := (nI (8 * k1 + m1))) d_fl_shownAt_24 hx.2.1.2.2.2.2.2.1 rfl (by omega) (by decide) (by rw [v1, ht]; try rfl) ?_
      refine Ex_iconst d_fl_shownAt_25 ic_m1 ?_
      refine Ex_icmp_neZ (((8 * k1 + m1 : Nat) : Int)) ((-1)) 38 d_fl_shownAt_26 rfl (nIJ _) (by decide) (by omega) (by omega) (fun hc26 => ?_) (fun hc26 => ?_)
      · refine Ex_aload_n d_fl_shownAt_38 rfl ?_
        refine Ex_getR (v := .ref (b)) d_fl_shownAt_39 pf_fl_11 rfl hx.2.1.2.1 (congrArg va_rf hx.2.1.2.2.1) ?_
        refine Ex_iload_n d_fl_shownAt_42 rfl ?_
        refine Ex_ialoadN (a := (i * 8) + j) (y := (nI (8 * k1 + m1))) d_fl_shownAt_43 hx.2.1.2.2.2.2.2.1 rfl (by omega) (by decide) (by rw [v1, ht]; try rfl) ?_
        refine Ex_ireturn d_fl_shownAt_44 rfl ?_
        exact Pu_nz rfl
      · exfalso; omega
    | some none, _ =>
      refine Ex_aload_n d_fl_shownAt_19 rfl ?_
      refine Ex_getR (v := .ref (b)) d_fl_shownAt_20 pf_fl_11 rfl hx.2.1.2.1 (congrArg va_rf hx.2.1.2.2.1) ?_
      refine Ex_iload_n d_fl_shownAt_23 rfl ?_
      refine Ex_ialoadN (a := (i * 8) + j) (y := (-2 : Int32)) d_fl_shownAt_24 hx.2.1.2.2.2.2.2.1 rfl (by omega) (by decide) (by rw [v1, ht]; try rfl) ?_
      refine Ex_iconst d_fl_shownAt_25 ic_m1 ?_
      refine Ex_icmp_neZ ((-2)) ((-1)) 38 d_fl_shownAt_26 rfl (by decide) (by decide) (by omega) (by omega) (fun hc26 => ?_) (fun hc26 => ?_)
      · refine Ex_aload_n d_fl_shownAt_38 rfl ?_
        refine Ex_getR (v := .ref (b)) d_fl_shownAt_39 pf_fl_11 rfl hx.2.1.2.1 (congrArg va_rf hx.2.1.2.2.1) ?_
        refine Ex_iload_n d_fl_shownAt_42 rfl ?_
        refine Ex_ialoadN (a := (i * 8) + j) (y := (-2 : Int32)) d_fl_shownAt_43 hx.2.1.2.2.2.2.2.1 rfl (by omega) (by decide) (by rw [v1, ht]; try rfl) ?_
        refine Ex_ireturn d_fl_shownAt_44 rfl ?_
        exact Pu_zc (show J (-2) = -2 by decide)
      · exact absurd hc26 (by decide)
    | none, _ =>
      match hl : fL F f (i * 8 + j), o2 with
      | none, _ =>
        refine Ex_aload_n d_fl_shownAt_19 rfl ?_
        refine Ex_getR (v := .ref (b)) d_fl_shownAt_20 pf_fl_11 rfl hx.2.1.2.1 (congrArg va_rf hx.2.1.2.2.1) ?_
        refine Ex_iload_n d_fl_shownAt_23 rfl ?_
        refine Ex_ialoadN (a := (i * 8) + j) (y := (-1 : Int32)) d_fl_shownAt_24 hx.2.1.2.2.2.2.2.1 rfl (by omega) (by decide) (by rw [v1, ht]; try rfl) ?_
        refine Ex_iconst d_fl_shownAt_25 ic_m1 ?_
        refine Ex_icmp_neZ ((-1)) ((-1)) 38 d_fl_shownAt_26 rfl (by decide) (by decide) (by omega) (by omega) (fun hc26 => ?_) (fun hc26 => ?_)
        · exact absurd hc26 (by decide)
        · refine Ex_aload_n d_fl_shownAt_29 rfl ?_
          refine Ex_getR (v := .ref (c)) d_fl_shownAt_30 pf_fl_15 rfl hx.2.1.2.1 (congrArg va_rf hx.2.1.2.2.2.1) ?_
          refine Ex_iload_n d_fl_shownAt_33 rfl ?_
          refine Ex_ialoadN (a := (i * 8) + j) (y := (-1 : Int32)) d_fl_shownAt_34 hx.2.1.2.2.2.2.2.2.1 rfl (by omega) (by decide) (by rw [v2, hl]; try rfl) ?_
          refine Ex_goto 44 d_fl_shownAt_35 rfl ?_
          refine Ex_ireturn d_fl_shownAt_44 rfl ?_
          exact Pu_m1 rfl
      | some (k2, m2), o2 =>
        refine Ex_aload_n d_fl_shownAt_19 rfl ?_
        refine Ex_getR (v := .ref (b)) d_fl_shownAt_20 pf_fl_11 rfl hx.2.1.2.1 (congrArg va_rf hx.2.1.2.2.1) ?_
        refine Ex_iload_n d_fl_shownAt_23 rfl ?_
        refine Ex_ialoadN (a := (i * 8) + j) (y := (-1 : Int32)) d_fl_shownAt_24 hx.2.1.2.2.2.2.2.1 rfl (by omega) (by decide) (by rw [v1, ht]; try rfl) ?_
        refine Ex_iconst d_fl_shownAt_25 ic_m1 ?_
        refine Ex_icmp_neZ ((-1)) ((-1)) 38 d_fl_shownAt_26 rfl (by decide) (by decide) (by omega) (by omega) (fun hc26 => ?_) (fun hc26 => ?_)
        · exact absurd hc26 (by decide)
        · refine Ex_aload_n d_fl_shownAt_29 rfl ?_
          refine Ex_getR (v := .ref (c)) d_fl_shownAt_30 pf_fl_15 rfl hx.2.1.2.1 (congrArg va_rf hx.2.1.2.2.2.1) ?_
          refine Ex_iload_n d_fl_shownAt_33 rfl ?_
          refine Ex_ialoadN (a := (i * 8) + j) (y := (nI (8 * k2 + m2))) d_fl_shownAt_34 hx.2.1.2.2.2.2.2.2.1 rfl (by omega) (by decide) (by rw [v2, hl]; try rfl) ?_
          refine Ex_goto 44 d_fl_shownAt_35 rfl ?_
          refine Ex_ireturn d_fl_shownAt_44 rfl ?_
          exact Pu_nz rfl
  · cases hc6
theorem to_floorOf_s {S : mj_S} {h : mj_H} (hs : HT h) {F : SF} {Y : OW} (hF : FC F Y h) {n : Nat} (hFO : FO n F) {f a b c d : Nat} (hf : f < F.1) (hx : FlC1 F Y h f a b c d) : Cl S to_floorOf [.ref 0, .int (nI (f))] h (Pu (.ref a) h) := by
  show Ex S to_floorOf 0 [some (.ref 0), some (.int (nI (f)))] [] h _
  have h8 := hFO.1
  refine Ex_iload_n d_to_floorOf_0 rfl ?_
  refine Ex_if_ltN (f) 21 d_to_floorOf_1 rfl rfl (by omega) (fun hc1 => ?_) (fun hc1 => ?_)
  · exfalso; omega
  · refine Ex_iload_n d_to_floorOf_4 rfl ?_
    refine Ex_aload_n d_to_floorOf_5 rfl ?_
    refine Ex_getIE (y := (nI (F.1))) d_to_floorOf_6 pf_to_361 rfl (t_0 hs) hF.1 ?_
    refine Ex_icmp_geN (f) (F.1) 21 d_to_floorOf_9 rfl rfl rfl (by omega) (by omega) (fun hc9 => ?_) (fun hc9 => ?_)
    · exfalso; omega
    · refine Ex_aload_n d_to_floorOf_12 rfl ?_
      refine Ex_getR (v := .ref 37) d_to_floorOf_13 pf_to_86 rfl (t_0 hs) (r_0_11 hs) ?_
      refine Ex_iload_n d_to_floorOf_16 rfl ?_
      refine Ex_aaloadN (a := f) (v := .ref (a)) d_to_floorOf_17 (t_37 hs) (by decide) rfl (by omega) (by decide) (congrArg va_rf hx.2.1.1) ?_
      refine Ex_goto 22 d_to_floorOf_18 rfl ?_
      refine Ex_areturn d_to_floorOf_22 rfl (Or.inl ⟨_, rfl⟩) ?_
      exact Pu_r
theorem to_floorOf_n {S : mj_S} {h : mj_H} (hs : HT h) {F : SF} {Y : OW} (hF : FC F Y h) {n : Nat} (hFO : FO n F) {z : Int} (hz : -2147483648 ≤ z ∧ z < 2147483648) (hn : ¬ (0 ≤ z ∧ z < F.1)) : Cl S to_floorOf [.ref 0, .int (J (z))] h (Pu .null h) := by
  show Ex S to_floorOf 0 [some (.ref 0), some (.int (J (z)))] [] h _
  have h8 := hFO.1
  refine Ex_iload_n d_to_floorOf_0 rfl ?_
  refine Ex_if_ltZ (z) 21 d_to_floorOf_1 rfl rfl (by omega) (fun hc1 => ?_) (fun hc1 => ?_)
  · refine Ex_aconst_null d_to_floorOf_21 ?_
    refine Ex_areturn0 d_to_floorOf_22 rfl (Or.inl ⟨_, rfl⟩) ?_
    exact ⟨rfl, rfl⟩
  · refine Ex_iload_n d_to_floorOf_4 rfl ?_
    refine Ex_aload_n d_to_floorOf_5 rfl ?_
    refine Ex_getIE (y := (nI (F.1))) d_to_floorOf_6 pf_to_361 rfl (t_0 hs) hF.1 ?_
    refine Ex_icmp_geZ (z) (((F.1 : Nat) : Int)) 21 d_to_floorOf_9 rfl rfl (nIJ _) (by omega) (by omega) (fun hc9 => ?_) (fun hc9 => ?_)
    · refine Ex_aconst_null d_to_floorOf_21 ?_
      refine Ex_areturn0 d_to_floorOf_22 rfl (Or.inl ⟨_, rfl⟩) ?_
      exact ⟨rfl, rfl⟩
    · exfalso; omega
theorem to_floorOf_z {S : mj_S} {h : mj_H} (hs : HT h) {F : SF} {Y : OW} (hF : FC F Y h) {n : Nat} (hFO : FO n F) {f : Int} {a b c d : Nat} (hr : 0 ≤ f ∧ f < F.1) (hx : FlC1 F Y h f.toNat a b c d) : Cl S to_floorOf [.ref 0, .int (J f)] h (Pu (.ref a) h) := by
  rw [J_pos hr.1]
  exact to_floorOf_s hs hF hFO (by omega) hx
def NCF (F' : SF) (Y : OW) (c s : Nat) (h h' : mj_H) : Prop := (∃ Y', OwE h Y Y' ∧ FC F' Y' h') ∧ Gr c s h h'
theorem Fl_ne {F : SF} {Y : OW} {h : mj_H} {f a b c d : Nat} (z : FlC1 F Y h f a b c d) : a ≠ b ∧ a ≠ c ∧ a ≠ d ∧ b ≠ c ∧ b ≠ d ∧ c ≠ d := by
  obtain ⟨⟨⟨a1, a2⟩, ⟨a3, a4⟩, ⟨a5, a6⟩, a7, a8⟩, -⟩ := z
  refine ⟨?_, ?_, ?_, ?_, ?_, ?_⟩ <;> intro w <;> subst w
  · rw [a2] at a4; cases a4
  · rw [a2] at a6; cases a6
  · rw [a2] at a8; cases a8
  · rw [a4] at a6; cases a6
  · rw [a4] at a8; cases a8
  · rw [a6] at a8; cases a8
def Wfb (Y : OW) (f a k : Nat) : Prop := 74 ≤ a ∧ (Y a = (8, f) ∨ Y a = (9, f) ∨ Y a = (10, f))
theorem Wfb_C {Y : OW} {f : Nat} : ∀ a k, Wfb Y f a k → WFC Y a k := by
  intro a k z
  refine Or.inl (Or.inr (Or.inr (Or.inr ⟨z.1, ?_⟩)))
  rcases z.2 with w | w | w <;> rw [w] <;> exact ⟨by show 7 ≤ _; omega, by show _ ≤ 10; omega⟩
theorem FC_upd {F F' : SF} {Y : OW} {h h' : mj_H} (hs : HT h) (hF : FC F Y h) {f : Nat} (hn : F'.1 = F.1) (he : fE F' = fE F) (ho : ∀ q, q ≠ f → fR F' q = fR F q ∧ fC F' q = fC F q ∧ fT F' q = fT F q ∧ fL F' q = fL F q ∧ fS F' q = fS F q) (fr : Fr (Wfb Y f) h h') (hz : ∃ a b c d, FlC1 F' Y h' f a b c d) : FC F' Y h' := by
  have hnn := HT_n hs
  refine ⟨?_, ?_, fun q hq => ?_⟩
  · rw [fr.I (by omega) (fun z => by have := z.1; omega), hn]; exact hF.1
  · rw [fr.I (by omega) (fun z => by have := z.1; omega), he]; exact hF.2.1
  · by_cases hqf : q = f
    · rw [hqf]; exact hz
    · rw [hn] at hq
      obtain ⟨a, b, c, d, z⟩ := hF.2.2 q hq
      obtain ⟨⟨a1, a2⟩, ⟨a3, a4⟩, ⟨a5, a6⟩, a7, a8⟩ := z.1
      have nn : ∀ {x t : Nat}, Y x = (t, q) → ∀ k, ¬ Wfb Y f x k := fun hy k w => by
        rcases w.2 with w | w | w <;> rw [hy] at w <;> exact hqf (Prod.mk.inj w).2
      have z2 := FlC1_fr hs fr (fun w => by have := w.1; omega) (nn a2) (nn a4) (nn a6) (nn a8) OwE.rf z
      obtain ⟨e1, e2, e3, e4, e5⟩ := ho q hqf
      refine ⟨a, b, c, d, z2.1, z2.2.1, ?_, ?_, ?_⟩
      · rw [e1, e2]; exact z2.2.2.1
      · rw [e3, e4]; exact z2.2.2.2.1
      · rw [e5]; exact z2.2.2.2.2
def hFI (h : mj_H) (a : Nat) (x y : Int32) : mj_H := wI (wI (wR (mNew (wR (mNew (wR (mNew h 0 64) a 2 (some (mN h))) 0 64) a 3 (some (mN h + 1))) 0 40) a 4 (some (mN h + 2))) a 0 x) a 1 y
theorem hFI_s {h : mj_H} {a : Nat} {x y : Int32} (ht : mT h a = some (13, 5)) : mT (hFI h a x y) a = some (13, 5) ∧ mR (hFI h a x y) a 2 = some (mN h) ∧ mR (hFI h a x y) a 3 = some (mN h + 1) ∧ mR (hFI h a x y) a 4 = some (mN h + 2) ∧ mT (hFI h a x y) (mN h) = some (0, 64) ∧ mT (hFI h a x y) (mN h + 1) = some (0, 64) ∧ mT (hFI h a x y) (mN h + 2) = some (0, 40) ∧ mI (hFI h a x y) a 0 = x ∧ mI (hFI h a x y) a 1 = y ∧ (∀ k, mI (hFI h a x y) (mN h + 2) k = 0) ∧ mN (hFI h a x y) = mN h + 3 ∧ mZ (hFI h a x y) = mZ h + 168 := by
  have hl := mT_lt ht
  have h1 : mT (mNew h 0 64) a = some (13, 5) := mT_new_old ht
  have n1 : mN (mNew h 0 64) = mN h + 1 := mN_new _ _ _
  have n2 : mN (mNew (wR (mNew h 0 64) a 2 (some (mN h))) 0 64) = mN h + 2 := by rw [mN_new]; show mN (mNew h 0 64) + 1 = _; omega
  have t1 : mT (mNew h 0 64) (mN h) = some (0, 64) := mT_new_self _ _ _
  have t2 : mT (mNew (wR (mNew h 0 64) a 2 (some (mN h))) 0 64) (mN h + 1) = some (0, 64) := by
    have := mT_new_self (wR (mNew h 0 64) a 2 (some (mN h))) 0 64
    rw [show mN (wR (mNew h 0 64) a 2 (some (mN h))) = mN h + 1 from n1] at this
    exact this
  have t3 : mT (mNew (wR (mNew (wR (mNew h 0 64) a 2 (some (mN h))) 0 64) a 3 (some (mN h + 1))) 0 40) (mN h + 2) = some (0, 40) := by
    have := mT_new_self (wR (mNew (wR (mNew h 0 64) a 2 (some (mN h))) 0 64) a 3 (some (mN h + 1))) 0 40
    rw [show mN (wR (mNew (wR (mNew h 0 64) a 2 (some (mN h))) 0 64) a 3 (some (mN h + 1))) = mN h + 2 from n2] at this
    exact this
  have z3 : ∀ k, mI (mNew (wR (mNew (wR (mNew h 0 64) a 2 (some (mN h))) 0 64) a 3 (some (mN h + 1))) 0 40) (mN h + 2) k = 0 := fun k => by
    show va_up _ (wR (mNew (wR (mNew h 0 64) a 2 (some (mN h))) 0 64) a 3 (some (mN h + 1))).1.length (fun _ => 0) (mN h + 2) k = 0
    unfold va_up
    rw [if_pos (show mN h + 2 = (wR (mNew (wR (mNew h 0 64) a 2 (some (mN h))) 0 64) a 3 (some (mN h + 1))).1.length from n2.symm)]
  have o : ∀ (g : mj_H) (t m k : Nat), a < mN g → mR (mNew g t m) a k = mR g a k := fun g t m k hg => by
    show va_up g.2.2.2 g.1.length (fun _ => none) a k = _
    unfold va_up
    rw [if_neg (by have : a < g.1.length := hg; omega)]
    rfl
  have r : ∀ (g : mj_H) (k j : Nat) (v : Option Nat), mR (wR g a k v) a j = if j = k then v else mR g a j := fun g k j v => by
    rw [mR_wR, if_pos rfl]
    rfl
  unfold hFI
  simp only [mR_wI]
  refine ⟨mT_new_old (show mT (wR _ _ _ _) a = _ from mT_new_old (show mT (wR _ _ _ _) a = _ from h1)), ?_, ?_, ?_, mT_new_old (show mT (wR _ _ _ _) _ = _ from mT_new_old (show mT (wR _ _ _ _) _ = _ from t1)), mT_new_old (show mT (wR _ _ _ _) _ = _ from t2), t3, ?_, mI_self _ _ _ _, fun k => ?_, ?_, ?_⟩
  · rw [r, if_neg (by decide), o _ _ _ _ (by show a < mN (mNew _ _ _); omega), r, if_neg (by decide), o _ _ _ _ (by show a < mN (mNew _ _ _); omega), r, if_pos rfl]
  · rw [r, if_neg (by decide), o _ _ _ _ (by show a < mN (mNew _ _ _); omega), r, if_pos rfl]
  · rw [r, if_pos rfl]
  · rw [mI_oth (Or.inr (by decide)), mI_self]
  · rw [mI_oth (Or.inl (by omega)), mI_oth (Or.inl (by omega))]
    exact z3 k
  · show mN (mNew _ _ _) = _
    rw [mN_new]
    show mN (mNew _ _ _) + 1 = _
    omega
  · show mZ (mNew _ _ _) = _
    rw [mZ_new]
    show mZ (mNew _ _ _) + 40 = _
    rw [mZ_new]
    show mZ (mNew _ _ _) + 64 + 40 = _
    rw [mZ_new]
def hFJ (h : mj_H) (a : Nat) (x y : Int32) : mj_H := wA (wA (hFI h a x y) (mN h) (flF (mI (hFI h a x y) (mN h)) (-1) 64)) (mN h + 1) (flF (mI (wA (hFI h a x y) (mN h) (flF (mI (hFI h a x y) (mN h)) (-1) 64)) (mN h + 1)) (-1) 64)
theorem fl_init_s {S : mj_S} {h : mj_H} {a : Nat} {x y : Int32} (ht : mT h a = some (13, 5)) : Cl S fl_init [.ref a, .int x, .int y] h (fun r h' => r = none ∧ h' = hFJ h a x y) := by
  show Ex S fl_init 0 [some (.ref (a)), some (.int (x)), some (.int (y))] [] h _
  refine Ex_aload_n d_fl_init_0 rfl ?_
  refine Ex_objInit d_fl_init_1 pm_fl_5 pw_oi pw_oc rfl ⟨Nat.le_of_ble_eq_true rfl, Nat.le_of_ble_eq_true rfl⟩ ?_
  refine Ex_aload_n d_fl_init_4 rfl ?_
  refine Ex_bipush d_fl_init_5 bp_64 ?_
  refine Ex_newarrayN (a := 64) d_fl_init_7 (Or.inl ⟨rfl, rfl⟩) pw_ai rfl (by omega) ?_
  refine Ex_putR (x := (some ((mN h)))) d_fl_init_9 pf_fl_11 (Or.inr ⟨rfl, rfl, _, rfl⟩) rfl (mT_new_old ht) rfl ?_
  refine Ex_aload_n d_fl_init_12 rfl ?_
  refine Ex_bipush d_fl_init_13 bp_64 ?_
  refine Ex_newarrayN (a := 64) d_fl_init_15 (Or.inl ⟨rfl, rfl⟩) pw_ai rfl (by omega) ?_
  rw [show mN (wR (mNew h 0 64) a 2 (some (mN h))) = mN h + 1 from mN_new _ _ _]
  refine Ex_putR (x := (some ((mN h + 1)))) d_fl_init_17 pf_fl_15 (Or.inr ⟨rfl, rfl, _, rfl⟩) rfl (show mT (mNew (wR (mNew h 0 64) a 2 (some (mN h))) 0 64) a = some (13, 5) from mT_new_old (show mT (wR _ _ _ _) a = _ from mT_new_old ht)) rfl ?_
  refine Ex_aload_n d_fl_init_20 rfl ?_
  refine Ex_bipush d_fl_init_21 bp_40 ?_
  refine Ex_newarrayN (a := 40) d_fl_init_23 (Or.inl ⟨rfl, rfl⟩) pw_ai rfl (by omega) ?_
  rw [show mN (wR (mNew (wR (mNew h 0 64) a 2 (some (mN h))) 0 64) a 3 (some (mN h + 1))) = mN h + 2 by
    show mN (mNew _ _ _) = _
    rw [mN_new]
    show mN (mNew _ _ _) + 1 = _
    rw [mN_new]]
  refine Ex_putR (x := (some ((mN h + 2)))) d_fl_init_25 pf_fl_20 (Or.inr ⟨rfl, rfl, _, rfl⟩) rfl (show mT (mNew (wR (mNew (wR (mNew h 0 64) a 2 (some (mN h))) 0 64) a 3 (some (mN h + 1))) 0 40) a = some (13, 5) from mT_new_old (show mT (wR _ _ _ _) a = _ from mT_new_old (show mT (wR _ _ _ _) a = _ from mT_new_old ht))) rfl ?_
  refine Ex_aload_n d_fl_init_28 rfl ?_
  refine Ex_iload_n d_fl_init_29 rfl ?_
  refine Ex_putI d_fl_init_30 pf_fl_23 (Or.inr ⟨rfl, rfl, _, rfl⟩) (show mT (mNew (wR (mNew (wR (mNew h 0 64) a 2 (some (mN h))) 0 64) a 3 (some (mN h + 1))) 0 40) a = some (13, 5) from mT_new_old (show mT (wR _ _ _ _) a = _ from mT_new_old (show mT (wR _ _ _ _) a = _ from mT_new_old ht))) (Or.inl rfl) ?_
  refine Ex_aload_n d_fl_init_33 rfl ?_
  refine Ex_iload_n d_fl_init_34 rfl ?_
  refine Ex_putI d_fl_init_35 pf_fl_27 (Or.inr ⟨rfl, rfl, _, rfl⟩) (show mT (mNew (wR (mNew (wR (mNew h 0 64) a 2 (some (mN h))) 0 64) a 3 (some (mN h + 1))) 0 40) a = some (13, 5) from mT_new_old (show mT (wR _ _ _ _) a = _ from mT_new_old (show mT (wR _ _ _ _) a = _ from mT_new_old ht))) (Or.inl rfl) ?_
  obtain ⟨hq1, hq2, hq3, hq4, hq5, hq6, hq7, hq8, hq9, hq10, hq11, hq12⟩ := hFI_s (x := x) (y := y) ht
  show Ex S fl_init 38 [some (.ref (a)), some (.int (x)), some (.int (y))] [] (hFI h a x y) _
  refine Ex_aload_n d_fl_init_38 rfl ?_
  refine Ex_getR (v := .ref ((mN h))) d_fl_init_39 pf_fl_11 rfl hq1 (congrArg va_rf hq2) ?_
  refine Ex_iconst d_fl_init_42 ic_m1 ?_
  refine Ex_cS2 d_fl_init_43 pk_fl_init_30 (jd_fillI_s (m := 64) hq5 (by omega)) ?_
  rintro rv hh ⟨rfl, rfl⟩
  show Ex S fl_init 46 [some (.ref (a)), some (.int (x)), some (.int (y))] [] (wA (hFI h a x y) (mN h) (flF (mI (hFI h a x y) (mN h)) (-1) 64)) _
  refine Ex_aload_n d_fl_init_46 rfl ?_
  refine Ex_getR (v := .ref ((mN h + 1))) d_fl_init_47 pf_fl_15 rfl hq1 (congrArg va_rf hq3) ?_
  refine Ex_iconst d_fl_init_50 ic_m1 ?_
  refine Ex_cS2 d_fl_init_51 pk_fl_init_30 (jd_fillI_s (m := 64) hq6 (by omega)) ?_
  rintro rv hh ⟨rfl, rfl⟩
  show Ex S fl_init 54 [some (.ref (a)), some (.int (x)), some (.int (y))] [] (hFJ h a x y) _
  refine Ex_return d_fl_init_54 rfl ?_
  exact ⟨rfl, rfl⟩
def hNF (h : mj_H) (x y : Int32) : mj_H := hFJ (mNew h 13 5) (mN h) x y
def yNF (Y : OW) (h : mj_H) (r : Nat) : OW := va_up (va_up (va_up (va_up Y (mN h) (7, r)) (mN h + 1) (8, r)) (mN h + 2) (9, r)) (mN h + 3) (10, r)
theorem yNF_s {h : mj_H} {Y : OW} {r : Nat} : OwE h Y (yNF Y h r) ∧ yNF Y h r (mN h) = (7, r) ∧ yNF Y h r (mN h + 1) = (8, r) ∧ yNF Y h r (mN h + 2) = (9, r) ∧ yNF Y h r (mN h + 3) = (10, r) := by
  refine ⟨fun a ha => ?_, ?_, ?_, ?_, ?_⟩
  · unfold yNF va_up
    rw [if_neg (by omega), if_neg (by omega), if_neg (by omega), if_neg (by omega)]
  · unfold yNF va_up
    rw [if_neg (by omega), if_neg (by omega), if_neg (by omega), if_pos rfl]
  · unfold yNF va_up
    rw [if_neg (by omega), if_neg (by omega), if_pos rfl]
  · unfold yNF va_up
    rw [if_neg (by omega), if_pos rfl]
  · unfold yNF va_up
    rw [if_pos rfl]
theorem hNF_s {h : mj_H} (hs : HT h) {x y : Int32} : HT (hNF h x y) ∧ Fr Wal h (hNF h x y) ∧ Gr 4 173 h (hNF h x y) ∧ (mT (hNF h x y) (mN h) = some (13, 5) ∧ mR (hNF h x y) (mN h) 2 = some (mN h + 1) ∧ mR (hNF h x y) (mN h) 3 = some (mN h + 2) ∧ mR (hNF h x y) (mN h) 4 = some (mN h + 3) ∧ mT (hNF h x y) (mN h + 1) = some (0, 64) ∧ mT (hNF h x y) (mN h + 2) = some (0, 64) ∧ mT (hNF h x y) (mN h + 3) = some (0, 40)) ∧ (mI (hNF h x y) (mN h) 0 = x ∧ mI (hNF h x y) (mN h) 1 = y) ∧ (∀ k, k < 64 → mI (hNF h x y) (mN h + 1) k = -1 ∧ mI (hNF h x y) (mN h + 2) k = -1) ∧ ∀ k, mI (hNF h x y) (mN h + 3) k = 0 := by
  have hn := HT_n hs
  obtain ⟨q1, q2, q3, q4, q5, q6, q7, q8, q9, q10, q11, q12⟩ := hFI_s (h := mNew h 13 5) (a := mN h) (x := x) (y := y) (mT_new_self h 13 5)
  rw [mN_new] at q2 q3 q4 q5 q6 q7 q10 q11
  rw [mZ_new] at q12
  have f0 : Fr Wal h (mNew h 13 5) := Fr.rf.nw ⟨rfl, rfl⟩ _ _
  have fz : Fr Wal h (hFI (mNew h 13 5) (mN h) x y) := by
    unfold hFI
    exact ((((((f0.nw ⟨rfl, rfl⟩ _ _).xR (Nat.le_refl _)).nw ⟨rfl, rfl⟩ _ _).xR (Nat.le_refl _)).nw ⟨rfl, rfl⟩ _ _).xR (Nat.le_refl _)).xI (Nat.le_refl _) |>.xI (Nat.le_refl _)
  have e0 : hNF h x y = wA (wA (hFI (mNew h 13 5) (mN h) x y) (mN h + 1) (flF (mI (hFI (mNew h 13 5) (mN h) x y) (mN h + 1)) (-1) 64)) (mN h + 2) (flF (mI (wA (hFI (mNew h 13 5) (mN h) x y) (mN h + 1) (flF (mI (hFI (mNew h 13 5) (mN h) x y) (mN h + 1)) (-1) 64)) (mN h + 2)) (-1) 64) := by
    unfold hNF hFJ
    rw [mN_new]
  have ff : Fr Wal h (hNF h x y) := by
    rw [e0]
    exact (fz.xA (by omega)).xA (by omega)
  have e : ∀ b k, b ≠ mN h + 1 → b ≠ mN h + 2 → mI (hNF h x y) b k = mI (hFI (mNew h 13 5) (mN h) x y) b k := fun b k hb hb2 => by
    rw [e0, mI_wA, if_neg hb2, mI_wA, if_neg hb]
  refine ⟨ff.ht hs (fun q hq z => ?_), ff, ⟨?_, ?_⟩, ⟨?_, ?_, ?_, ?_, ?_, ?_, ?_⟩, ⟨?_, ?_⟩, fun k hk => ⟨?_, ?_⟩, fun k => ?_⟩
  · have : ∀ q ∈ statR, ¬ (q.1 = 0 ∧ q.2.1 = 1000000000) := by decide
    exact this q hq z
  · rw [e0]; exact q11
  · rw [e0]
    show mZ (hFI (mNew h 13 5) (mN h) x y) ≤ _
    omega
  · rw [e0]; exact q1
  · rw [e0]; exact q2
  · rw [e0]; exact q3
  · rw [e0]; exact q4
  · rw [e0]; exact q5
  · rw [e0]; exact q6
  · rw [e0]; exact q7
  · rw [e _ _ (by omega) (by omega)]; exact q8
  · rw [e _ _ (by omega) (by omega)]; exact q9
  · rw [e0, mI_wA, if_neg (by omega), mI_wA, if_pos rfl]
    exact flF_in hk
  · rw [e0, mI_wA, if_pos rfl]
    exact flF_in hk
  · rw [e _ _ (by omega) (by omega)]; exact q10 k
theorem to_floor_s {S : mj_S} {h : mj_H} (hs : HT h) {F : SF} {Y : OW} (hF : FC F Y h) {n : Nat} (hFO : FO n F) {r c : Int} (hr : -2147483648 ≤ r ∧ r < 2147483648) (hc : -2147483648 ≤ c ∧ c < 2147483648) : Cl S to_floor [.ref 0, .int (J (r)), .int (J (c))] h (AnsN (okFl F r c) F.1 (NCF (addF F r.toNat c.toNat) Y 4 173 h) (WFC Y) h) := by
  show Ex S to_floor 0 [some (.ref 0), some (.int (J (r))), some (.int (J (c)))] [] h _
  have h8 := hFO.1
  refine Ex_aload_n d_to_floor_0 rfl ?_
  refine Ex_getIE (y := (nI (F.1))) d_to_floor_1 pf_to_361 rfl (t_0 hs) hF.1 ?_
  refine Ex_bipush d_to_floor_4 bp_6 ?_
  refine Ex_icmp_geN (F.1) (6) 17 d_to_floor_6 rfl rfl rfl (by omega) (by omega) (fun hc6 => ?_) (fun hc6 => ?_)
  · refine Ex_iconst d_to_floor_17 ic_m1 ?_
    refine Ex_ireturn d_to_floor_18 rfl ?_
    exact Or.inl ⟨by unfold okFl; omega, rfl, rfl⟩
  · refine Ex_iload_n d_to_floor_9 rfl ?_
    refine Ex_iload_n d_to_floor_10 rfl ?_
    refine Ex_pS2 (v := .int (bI (decide (1 ≤ r ∧ r ≤ 8 ∧ 1 ≤ c ∧ c ≤ 8)))) d_to_floor_11 pk_to_floor_364 (fl_mayBe_s hr hc) ?_
    refine Ex_if_neB (decide (1 ≤ r ∧ r ≤ 8 ∧ 1 ≤ c ∧ c ≤ 8)) 19 d_to_floor_14 rfl rfl (fun hc14 => ?_) (fun hc14 => ?_)
    · rw [decide_eq_true_eq] at hc14
      refine Ex_aload_n d_to_floor_19 rfl ?_
      refine Ex_getR (v := .ref 37) d_to_floor_20 pf_to_86 rfl (t_0 hs) (r_0_11 hs) ?_
      refine Ex_aload_n d_to_floor_23 rfl ?_
      refine Ex_getIE (y := (nI (F.1))) d_to_floor_24 pf_to_361 rfl (t_0 hs) hF.1 ?_
      refine Ex_new (ci := 3) d_to_floor_27 rfl pc_to_84 ?_
      have hs1 : HT (mNew h 13 5) := HT_new hs _ _
      refine Ex_dup rfl d_to_floor_30 ?_
      refine Ex_iload_n d_to_floor_31 rfl ?_
      refine Ex_iload_n d_to_floor_32 rfl ?_
      refine Ex_cI2 d_to_floor_33 pk_to_floor_365 (fl_init_s (mT_new_self h 13 5)) ?_
      rintro rv hh ⟨rfl, rfl⟩
      obtain ⟨hsQ, f2, g2, ⟨hq1, hq2, hq3, hq4, hq5, hq6, hq7⟩, ⟨hq8, hq9⟩, hq10, hq11⟩ := hNF_s hs (x := J r) (y := J c)
      show Ex S to_floor 36 [some (.ref 0), some (.int (J (r))), some (.int (J (c)))] [.ref ((mN h)), .int (nI (F.1)), .ref 37] (hNF h (J r) (J c)) _
      refine Ex_aastoreN (a := F.1) (ci := 3) d_to_floor_36 (t_37 hsQ) (by decide) hq1 (by decide) rfl (by omega) (by decide) ?_
      have hs2 : HT (wR (hNF h (J r) (J c)) 37 (F.1) (some ((mN h)))) := HT_wR hsQ (by omega)
      refine Ex_aload_n d_to_floor_37 rfl ?_
      refine Ex_dup rfl d_to_floor_38 ?_
      refine Ex_getIE (y := (nI (F.1))) d_to_floor_39 pf_to_361 rfl (t_0 hs2) (show mI (wR (hNF h (J r) (J c)) 37 F.1 (some (mN h))) 0 12 = nI F.1 by rw [mI_wR, f2.I (by have := HT_n hs; omega) (by unfold Wal; omega)]; exact hF.1) ?_
      refine Ex_iconst d_to_floor_42 ic_1 ?_
      refine Ex_iaddN (F.1) (1) d_to_floor_43 rfl rfl ?_
      refine Ex_putI d_to_floor_44 pf_to_361 (Or.inl rfl) (t_0 hs2) (Or.inl rfl) ?_
      refine Ex_aload_n d_to_floor_47 rfl ?_
      refine Ex_getIE (y := (nI (F.1 + 1))) d_to_floor_48 pf_to_361 rfl (t_0 hs2) (mI_self _ _ _ _) ?_
      refine Ex_iconst d_to_floor_51 ic_1 ?_
      refine Ex_isubN (F.1 + 1) (1) d_to_floor_52 rfl rfl (by omega) ?_
      refine Ex_ireturn d_to_floor_53 rfl ?_
      have hn74 := HT_n hs
      obtain ⟨oY, hY1, hY2, hY3, hY4⟩ := yNF_s (h := h) (Y := Y) (r := F.1)
      have f3 : Fr (fun a k => (a = 37 ∧ k = F.1) ∨ (a = 0 ∧ k = 12)) (hNF h (J r) (J c)) (wI (wR (hNF h (J r) (J c)) 37 F.1 (some (mN h))) 0 12 (nI (F.1 + 1))) := Fr.sI (Fr.sR Fr.rf (Or.inl ⟨rfl, rfl⟩)) (Or.inr ⟨rfl, rfl⟩)
      refine Or.inr ⟨⟨by omega, by omega, by omega, by omega, by omega⟩, by rw [Nat.add_sub_cancel], ⟨⟨_, oY, mI_self _ _ _ _, ?_, fun q hq => ?_⟩, g2.tr (Gr.of f3 (by omega))⟩, ?_⟩
      · rw [mI_oth (Or.inl (by decide)), mI_wR, f2.I (by omega) (by unfold Wal; omega)]
        exact hF.2.1
      · have hq : q < F.1 + 1 := hq
        by_cases hq1 : q = F.1
        · subst hq1
          obtain ⟨g1, g3, g4, g5, g6⟩ := addF_n (F := F) (r := r.toNat) (c := c.toNat)
          have k1 : ∀ x k, mN h ≤ x → mR (wI (wR (hNF h (J r) (J c)) 37 F.1 (some (mN h))) 0 12 (nI (F.1 + 1))) x k = mR (hNF h (J r) (J c)) x k := fun x k hx => by
            show mR (wR _ _ _ _) x k = _
            rw [mR_wR, if_neg (by omega)]
          have k2 : ∀ x k, mN h ≤ x → mI (wI (wR (hNF h (J r) (J c)) 37 F.1 (some (mN h))) 0 12 (nI (F.1 + 1))) x k = mI (hNF h (J r) (J c)) x k := fun x k hx => by
            rw [mI_oth (Or.inl (by omega)), mI_wR]
          refine ⟨mN h, mN h + 1, mN h + 2, mN h + 3, ⟨⟨by omega, hY1⟩, ⟨by omega, hY2⟩, ⟨by omega, hY3⟩, by omega, hY4⟩, ⟨?_, hq1, ?_, ?_, ?_, hq5, hq6, hq7⟩, ⟨?_, ?_⟩, fun k hk => ?_, fun k hk => ?_⟩
          · show mR (wR _ _ _ _) 37 F.1 = _
            rw [mR_wR, if_pos rfl]
            unfold va_up
            rw [if_pos rfl]
          · rw [k1 _ _ (by omega)]; exact hq2
          · rw [k1 _ _ (by omega)]; exact hq3
          · rw [k1 _ _ (by omega)]; exact hq4
          · rw [k2 _ _ (by omega), hq8, J_pos (by omega), g1]
          · rw [k2 _ _ (by omega), hq9, J_pos (by omega), g3]
          · rw [k2 _ _ (by omega), k2 _ _ (by omega), g4, g5]
            exact hq10 k hk
          · rw [k2 _ _ (by omega), hq11 k, g6]
            rfl
        · obtain ⟨a, b, c0, d, z⟩ := hF.2.2 q (by omega)
          obtain ⟨g1, g3, g4, g5, g6⟩ := addF_o (F := F) (r := r.toNat) (c := c.toNat) hq1
          have w1 := z.1.1.1
          have w2 := z.1.2.1.1
          have w3 := z.1.2.2.1.1
          have w4 := z.1.2.2.2.1
          have z2 := FlC1_fr hs f2 (by unfold Wal; omega) (fun k => by unfold Wal; omega) (fun k => by unfold Wal; omega) (fun k => by unfold Wal; omega) (fun k => by unfold Wal; omega) oY z
          have z3 := FlC1_fr (W := fun a k => (a = 37 ∧ k = F.1) ∨ (a = 0 ∧ k = 12)) (Y := yNF Y h F.1) (Y' := yNF Y h F.1) (q := q) (a := a) (b := b) (c := c0) (d := d) hsQ f3 (by rintro (⟨-, w⟩ | ⟨w, -⟩); exact hq1 w; omega) (fun k => by rintro (⟨w, -⟩ | ⟨w, -⟩) <;> omega) (fun k => by rintro (⟨w, -⟩ | ⟨w, -⟩) <;> omega) (fun k => by rintro (⟨w, -⟩ | ⟨w, -⟩) <;> omega) (fun k => by rintro (⟨w, -⟩ | ⟨w, -⟩) <;> omega) OwE.rf z2
          refine ⟨a, b, c0, d, z3.1, z3.2.1, ?_, ?_, ?_⟩
          · rw [g1, g3]; exact z3.2.2.1
          · rw [g4, g5]; exact z3.2.2.2.1
          · rw [g6]; exact z3.2.2.2.2
      · refine (f2.mono (fun a k z => Or.inr z)).tr (f3.mono (fun a k z => Or.inl ?_))
        rcases z with ⟨rfl, -⟩ | ⟨rfl, rfl⟩
        · exact Or.inr (Or.inr (Or.inl rfl))
        · exact Or.inl ⟨rfl, rfl⟩
    · rw [decide_eq_false_iff_not] at hc14
      refine Ex_iconst d_to_floor_17 ic_m1 ?_
      refine Ex_ireturn d_to_floor_18 rfl ?_
      exact Or.inl ⟨by unfold okFl; omega, rfl, rfl⟩
theorem FC_set {F : SF} {Y : OW} {h : mj_H} (hs : HT h) (hF : FC F Y h) {f t : Nat} (hf : f < F.1) (ht : t < 64) (w : To) {a b c d : Nat} (hx : FlC1 F Y h f a b c d) {u : Nat} (hu : u = t := by omega) {v : Int32} (hv : v = cT w) : FC (setPl F f t w) Y (wI (wI h b u v) c u (-1)) ∧ Fr (WFC Y) h (wI (wI h b u v) c u (-1)) := by
  subst hu
  subst hv
  obtain ⟨n1, n2, n3, n4, n5, n6⟩ := Fl_ne hx
  obtain ⟨⟨⟨a1, a2⟩, ⟨a3, a4⟩, ⟨a5, a6⟩, a7, a8⟩, ⟨b1, b2, b3, b4, b5, b6, b7, b8⟩, ⟨c1, c2⟩, c3, c4⟩ := id hx
  have f1 : Fr (Wfb Y f) h (wI (wI h b u (cT w)) c u (-1)) := Fr.sI (Fr.sI Fr.rf ⟨a3, Or.inl a4⟩) ⟨a5, Or.inr (Or.inl a6)⟩
  refine ⟨FC_upd hs hF (f := f) rfl rfl (fun q hq => ⟨rfl, rfl, ?_, ?_, rfl⟩) f1 ⟨a, b, c, d, hx.1, hx.2.1, ⟨?_, ?_⟩, fun k hk => ?_, fun k hk => ?_⟩, f1.mono Wfb_C⟩
  · exact if_neg hq
  · exact if_neg hq
  · rw [mI_oth (Or.inl n2), mI_oth (Or.inl n1)]; exact c1
  · rw [mI_oth (Or.inl n2), mI_oth (Or.inl n1)]; exact c2
  · show _ = cT (va_up (fT F) f (va_up (fT F f) u w) f k) ∧ _ = cQ (va_up (fL F) f (va_up (fL F f) u none) f k)
    rw [up2, up2]
    by_cases hk2 : k = u
    · subst hk2
      rw [if_pos ⟨rfl, rfl⟩, if_pos ⟨rfl, rfl⟩, mI_self, mI_oth (Or.inl n4), mI_self]
      exact ⟨rfl, rfl⟩
    · rw [if_neg (fun z => hk2 z.2), if_neg (fun z => hk2 z.2)]
      refine ⟨?_, ?_⟩
      · rw [mI_oth (Or.inl n4), mI_oth (Or.inr hk2)]
        exact (c3 k hk).1
      · rw [mI_oth (Or.inr hk2), mI_oth (Or.inl n4.symm)]
        exact (c3 k hk).2
  · rw [mI_oth (Or.inl n6.symm), mI_oth (Or.inl n5.symm)]
    exact c4 k hk
theorem to_place_s {S : mj_S} {h : mj_H} (hs : HT h) {K : SK} (hK : KC K h) (hO : KO K) {F : SF} {Y : OW} (hF : FC F Y h) (hFO : FO K.1 F) {f i j k m : Int} (hf : -2147483648 ≤ f ∧ f < 2147483648) (hi : -2147483648 ≤ i ∧ i < 2147483648) (hj : -2147483648 ≤ j ∧ j < 2147483648) (hk : -2147483648 ≤ k ∧ k < 2147483648) (hm : -2147483648 ≤ m ∧ m < 2147483648) : Cl S to_place [.ref 0, .int (J f), .int (J i), .int (J j), .int (J k), .int (J m)] h (Ans (okPc K F f i j k m) (FC F Y) (FC (setPl F f.toNat (8 * i.toNat + j.toNat) (pcT K k m)) Y) (WFC Y) h) := by
  show Ex S to_place 0 [some (.ref 0), some (.int (J (f))), some (.int (J (i))), some (.int (J (j))), some (.int (J (k))), some (.int (J (m))), none] [] h _
  have h8 := hFO.1
  have h40 := hO.1
  by_cases hrr : 0 ≤ f ∧ f < F.1
  · obtain ⟨x, b, c, d, hx⟩ := hF.2.2 f.toNat (by omega)
    obtain ⟨hz, ho, hst⟩ := hFO.2.2 f.toNat (by omega)
    refine Ex_aload_n d_to_place_0 rfl ?_
    refine Ex_iload_n d_to_place_1 rfl ?_
    refine Ex_pV1 (v := .ref (x)) d_to_place_2 pk_to_place_366 (t_0 hs) (to_floorOf_z hs hF hFO hrr hx) ?_
    refine Ex_astore [some (.ref 0), some (.int (J (f))), some (.int (J (i))), some (.int (J (j))), some (.int (J (k))), some (.int (J (m))), some (.ref (x))] d_to_place_5 (Nat.le_of_ble_eq_true rfl) rfl ?_
    refine Ex_aload d_to_place_7 rfl ?_
    refine Ex_ifnull d_to_place_9 ?_
    refine Ex_aload d_to_place_12 rfl ?_
    refine Ex_iload_n d_to_place_14 rfl ?_
    refine Ex_iload_n d_to_place_15 rfl ?_
    refine Ex_pV2 (v := .int (bI (decide (0 ≤ i ∧ i < fR F f.toNat ∧ 0 ≤ j ∧ j < fC F f.toNat)))) d_to_place_16 pk_to_place_370 hx.2.1.2.1 (fl_hasPlace_s hFO (by omega) hx hi hj) ?_
    refine Ex_if_neB (decide (0 ≤ i ∧ i < fR F f.toNat ∧ 0 ≤ j ∧ j < fC F f.toNat)) 24 d_to_place_19 rfl rfl (fun hc19 => ?_) (fun hc19 => ?_)
    · rw [decide_eq_true_eq] at hc19
      refine Ex_iload d_to_place_24 rfl ?_
      refine Ex_iconst d_to_place_26 ic_m1 ?_
      refine Ex_icmp_eqZ (k) ((-1)) 37 d_to_place_27 rfl rfl (by decide) (by omega) (by omega) (fun hc27 => ?_) (fun hc27 => ?_)
      · refine Ex_aload d_to_place_37 rfl ?_
        refine Ex_iload_n d_to_place_39 rfl ?_
        refine Ex_iload_n d_to_place_40 rfl ?_
        refine Ex_iload d_to_place_41 rfl ?_
        refine Ex_cV3 d_to_place_43 pk_to_place_371 hx.2.1.2.1 (show Cl S fl_setPlace [.ref x, .int (J i), .int (J j), .int (J (k))] h (fun rv h1 => rv = none ∧ h1 = wI (wI h b (i.toNat * 8 + j.toNat) (J (k))) c (i.toNat * 8 + j.toNat) (-1)) by rw [J_pos (show 0 ≤ i by omega), J_pos (show 0 ≤ j by omega)]; exact fl_setPlace_s hFO (show f.toNat < F.1 by omega) hx (by omega) (by omega) _) ?_
        rintro rv hh ⟨rfl, rfl⟩
        show Ex S to_place 46 [some (.ref 0), some (.int (J (f))), some (.int (J (i))), some (.int (J (j))), some (.int (J (k))), some (.int (J (m))), some (.ref (x))] [] (wI (wI h b (i.toNat * 8 + j.toNat) (J (k))) c (i.toNat * 8 + j.toNat) (-1)) _
        refine Ex_iconst d_to_place_46 ic_1 ?_
        refine Ex_zreturn d_to_place_47 rfl (by decide) ?_
        have hvv : J k = cT (pcT K k m) := by
          unfold pcT
          by_cases hk2 : k = -2
          · rw [if_pos hk2, hk2]; decide
          · rw [if_neg hk2, if_pos (by omega), show k = -1 by omega]; decide
        have z := FC_set hs hF (t := 8 * i.toNat + j.toNat) (show f.toNat < F.1 by omega) (by omega) (pcT K k m) hx (u := (i.toNat * 8 + j.toNat)) (hv := hvv)
        refine Or.inr ⟨⟨by omega, by omega, by omega, by omega, by omega, by omega, by omega⟩, rfl, ?_, z.2⟩
        exact z.1
      · refine Ex_iload d_to_place_30 rfl ?_
        refine Ex_bipush d_to_place_32 bp_m2 ?_
        refine Ex_icmp_neZ (k) ((-2)) 48 d_to_place_34 rfl rfl (by decide) (by omega) (by omega) (fun hc34 => ?_) (fun hc34 => ?_)
        · refine Ex_aload_n d_to_place_48 rfl ?_
          refine Ex_iload d_to_place_49 rfl ?_
          refine Ex_iload d_to_place_51 rfl ?_
          refine Ex_pV2 (v := .int (bI (decide (0 ≤ k ∧ k < K.1 ∧ 0 ≤ m ∧ m < 8)))) d_to_place_53 pk_to_place_180 (t_0 hs) (to_isKindInMove_s hs hK hO hk hm) ?_
          refine Ex_if_neB (decide (0 ≤ k ∧ k < K.1 ∧ 0 ≤ m ∧ m < 8)) 61 d_to_place_56 rfl rfl (fun hc56 => ?_) (fun hc56 => ?_)
          · rw [decide_eq_true_eq] at hc56
            refine Ex_aload d_to_place_61 rfl ?_
            refine Ex_iload_n d_to_place_63 rfl ?_
            refine Ex_iload_n d_to_place_64 rfl ?_
            refine Ex_bipush d_to_place_65 bp_8 ?_
            refine Ex_iload d_to_place_67 rfl ?_
            refine Ex_imulZ ((8)) (k) d_to_place_69 (by decide) rfl ?_
            rw [show ((J (((8)) * k)) : Int32) = (nI (8 * k.toNat)) from (by rw [J_pos (show 0 ≤ 8 * k by omega)]; congr 1; omega)]
            refine Ex_aload_n d_to_place_70 rfl ?_
            refine Ex_getR (v := .ref 1) d_to_place_71 pf_to_20 rfl (t_0 hs) (r_0_0 hs) ?_
            refine Ex_iload d_to_place_74 rfl ?_
            refine Ex_iload d_to_place_76 rfl ?_
            refine Ex_pV2 (v := .int (nI (kLie K k.toNat m.toNat))) d_to_place_78 pk_to_place_117 (t_1 hs) (show Cl S ki_lies [.ref 1, .int (J k), .int (J m)] h _ by rw [J_pos (show 0 ≤ k by omega), J_pos (show 0 ≤ m by omega)]; exact ki_lies_s hs hK hO (by omega) (by omega)) ?_
            refine Ex_iaddN (8 * k.toNat) (kLie K k.toNat m.toNat) d_to_place_81 rfl rfl ?_
            refine Ex_cV3 d_to_place_82 pk_to_place_371 hx.2.1.2.1 (show Cl S fl_setPlace [.ref x, .int (J i), .int (J j), .int (nI ((8 * k.toNat) + (kLie K k.toNat m.toNat)))] h (fun rv h1 => rv = none ∧ h1 = wI (wI h b (i.toNat * 8 + j.toNat) (nI ((8 * k.toNat) + (kLie K k.toNat m.toNat)))) c (i.toNat * 8 + j.toNat) (-1)) by rw [J_pos (show 0 ≤ i by omega), J_pos (show 0 ≤ j by omega)]; exact fl_setPlace_s hFO (show f.toNat < F.1 by omega) hx (by omega) (by omega) _) ?_
            rintro rv hh ⟨rfl, rfl⟩
            show Ex S to_place 85 [some (.ref 0), some (.int (J (f))), some (.int (J (i))), some (.int (J (j))), some (.int (J (k))), some (.int (J (m))), some (.ref (x))] [] (wI (wI h b (i.toNat * 8 + j.toNat) (nI ((8 * k.toNat) + (kLie K k.toNat m.toNat)))) c (i.toNat * 8 + j.toNat) (-1)) _
            refine Ex_iconst d_to_place_85 ic_1 ?_
            refine Ex_zreturn d_to_place_86 rfl (by decide) ?_
            have z := FC_set hs hF (t := 8 * i.toNat + j.toNat) (show f.toNat < F.1 by omega) (by omega) (some (some (k.toNat, kLie K k.toNat m.toNat))) hx (u := (i.toNat * 8 + j.toNat)) (hv := rfl)
            refine Or.inr ⟨⟨by omega, by omega, by omega, by omega, by omega, by omega, by omega⟩, rfl, ?_, z.2⟩
            unfold pcT
            rw [if_neg (by omega), if_neg (by omega)]
            exact z.1
          · rw [decide_eq_false_iff_not] at hc56
            refine Ex_iconst d_to_place_59 ic_0 ?_
            refine Ex_zreturn d_to_place_60 rfl (by decide) ?_
            exact Or.inl ⟨by unfold okPc; omega, rfl, rfl⟩
        · refine Ex_aload d_to_place_37 rfl ?_
          refine Ex_iload_n d_to_place_39 rfl ?_
          refine Ex_iload_n d_to_place_40 rfl ?_
          refine Ex_iload d_to_place_41 rfl ?_
          refine Ex_cV3 d_to_place_43 pk_to_place_371 hx.2.1.2.1 (show Cl S fl_setPlace [.ref x, .int (J i), .int (J j), .int (J (k))] h (fun rv h1 => rv = none ∧ h1 = wI (wI h b (i.toNat * 8 + j.toNat) (J (k))) c (i.toNat * 8 + j.toNat) (-1)) by rw [J_pos (show 0 ≤ i by omega), J_pos (show 0 ≤ j by omega)]; exact fl_setPlace_s hFO (show f.toNat < F.1 by omega) hx (by omega) (by omega) _) ?_
          rintro rv hh ⟨rfl, rfl⟩
          show Ex S to_place 46 [some (.ref 0), some (.int (J (f))), some (.int (J (i))), some (.int (J (j))), some (.int (J (k))), some (.int (J (m))), some (.ref (x))] [] (wI (wI h b (i.toNat * 8 + j.toNat) (J (k))) c (i.toNat * 8 + j.toNat) (-1)) _
          refine Ex_iconst d_to_place_46 ic_1 ?_
          refine Ex_zreturn d_to_place_47 rfl (by decide) ?_
          have hvv : J k = cT (pcT K k m) := by
            unfold pcT
            by_cases hk2 : k = -2
            · rw [if_pos hk2, hk2]; decide
            · rw [if_neg hk2, if_pos (by omega), show k = -1 by omega]; decide
          have z := FC_set hs hF (t := 8 * i.toNat + j.toNat) (show f.toNat < F.1 by omega) (by omega) (pcT K k m) hx (u := (i.toNat * 8 + j.toNat)) (hv := hvv)
          refine Or.inr ⟨⟨by omega, by omega, by omega, by omega, by omega, by omega, by omega⟩, rfl, ?_, z.2⟩
          exact z.1
    · rw [decide_eq_false_iff_not] at hc19
      refine Ex_iconst d_to_place_22 ic_0 ?_
      refine Ex_zreturn d_to_place_23 rfl (by decide) ?_
      exact Or.inl ⟨by unfold okPc; omega, rfl, rfl⟩
  · refine Ex_aload_n d_to_place_0 rfl ?_
    refine Ex_iload_n d_to_place_1 rfl ?_
    refine Ex_pV1 (v := .null) d_to_place_2 pk_to_place_366 (t_0 hs) (to_floorOf_n hs hF hFO hf hrr) ?_
    refine Ex_astore0 [some (.ref 0), some (.int (J (f))), some (.int (J (i))), some (.int (J (j))), some (.int (J (k))), some (.int (J (m))), some (.null)] d_to_place_5 (Nat.le_of_ble_eq_true rfl) rfl ?_
    refine Ex_aload0 d_to_place_7 rfl ?_
    refine Ex_ifnull0 22 d_to_place_9 rfl ?_
    refine Ex_iconst d_to_place_22 ic_0 ?_
    refine Ex_zreturn d_to_place_23 rfl (by decide) ?_
    exact Or.inl ⟨fun z => hrr ⟨z.1, z.2.1⟩, rfl, rfl⟩
theorem to_stock_s {S : mj_S} {h : mj_H} (hs : HT h) {K : SK} (hK : KC K h) (hO : KO K) {F : SF} {Y : OW} (hF : FC F Y h) (hFO : FO K.1 F) {f k n : Int} (hf : -2147483648 ≤ f ∧ f < 2147483648) (hk : -2147483648 ≤ k ∧ k < 2147483648) (hn : -2147483648 ≤ n ∧ n < 2147483648) : Cl S to_stock [.ref 0, .int (J f), .int (J k), .int (J n)] h (Ans (okSk K F f k n) (FC F Y) (FC (setSt F f.toNat k.toNat n.toNat) Y) (WFC Y) h) := by
  show Ex S to_stock 0 [some (.ref 0), some (.int (J (f))), some (.int (J (k))), some (.int (J (n))), none] [] h _
  have h8 := hFO.1
  have h40 := hO.1
  by_cases hrr : 0 ≤ f ∧ f < F.1
  · obtain ⟨x, b, c, d, hx⟩ := hF.2.2 f.toNat (by omega)
    obtain ⟨hz, ho, hst⟩ := hFO.2.2 f.toNat (by omega)
    refine Ex_aload_n d_to_stock_0 rfl ?_
    refine Ex_iload_n d_to_stock_1 rfl ?_
    refine Ex_pV1 (v := .ref (x)) d_to_stock_2 pk_to_stock_366 (t_0 hs) (to_floorOf_z hs hF hFO hrr hx) ?_
    refine Ex_astore [some (.ref 0), some (.int (J (f))), some (.int (J (k))), some (.int (J (n))), some (.ref (x))] d_to_stock_5 (Nat.le_of_ble_eq_true rfl) rfl ?_
    refine Ex_aload d_to_stock_7 rfl ?_
    refine Ex_ifnull d_to_stock_9 ?_
    refine Ex_aload_n d_to_stock_12 rfl ?_
    refine Ex_getR (v := .ref 1) d_to_stock_13 pf_to_20 rfl (t_0 hs) (r_0_0 hs) ?_
    refine Ex_iload_n d_to_stock_16 rfl ?_
    refine Ex_pV1 (v := .int (bI (decide (0 ≤ k ∧ k < K.1)))) d_to_stock_17 pk_to_stock_110 (t_1 hs) (ki_has_s hs hK hO hk) ?_
    refine Ex_if_eqB (decide (0 ≤ k ∧ k < K.1)) 33 d_to_stock_20 rfl rfl (fun hc20 => ?_) (fun hc20 => ?_)
    · rw [decide_eq_false_iff_not] at hc20
      refine Ex_iconst d_to_stock_33 ic_0 ?_
      refine Ex_zreturn d_to_stock_34 rfl (by decide) ?_
      exact Or.inl ⟨by unfold okSk; omega, rfl, rfl⟩
    · rw [decide_eq_true_eq] at hc20
      refine Ex_iload_n d_to_stock_23 rfl ?_
      refine Ex_if_ltZ (n) 33 d_to_stock_24 rfl rfl (by omega) (fun hc24 => ?_) (fun hc24 => ?_)
      · refine Ex_iconst d_to_stock_33 ic_0 ?_
        refine Ex_zreturn d_to_stock_34 rfl (by decide) ?_
        exact Or.inl ⟨by unfold okSk; omega, rfl, rfl⟩
      · refine Ex_iload_n d_to_stock_27 rfl ?_
        refine Ex_bipush d_to_stock_28 bp_99 ?_
        refine Ex_icmp_leZ (n) ((99)) 35 d_to_stock_30 rfl rfl (by decide) (by omega) (by omega) (fun hc30 => ?_) (fun hc30 => ?_)
        · refine Ex_aload d_to_stock_35 rfl ?_
          refine Ex_iload_n d_to_stock_37 rfl ?_
          refine Ex_iload_n d_to_stock_38 rfl ?_
          refine Ex_cV2 d_to_stock_39 pk_to_stock_374 hx.2.1.2.1 (show Cl S fl_setStock [.ref x, .int (J k), .int (J n)] h (fun rv h1 => rv = none ∧ h1 = wI h d k.toNat (J n)) by rw [J_pos (show 0 ≤ k by omega)]; exact fl_setStock_s hFO (show f.toNat < F.1 by omega) hx (by omega) _) ?_
          rintro rv hh ⟨rfl, rfl⟩
          show Ex S to_stock 42 [some (.ref 0), some (.int (J (f))), some (.int (J (k))), some (.int (J (n))), some (.ref (x))] [] (wI h d k.toNat (J n)) _
          refine Ex_iconst d_to_stock_42 ic_1 ?_
          refine Ex_zreturn d_to_stock_43 rfl (by decide) ?_
          obtain ⟨n1, n2, n3, n4, n5, n6⟩ := Fl_ne hx
          obtain ⟨⟨⟨a1, a2⟩, ⟨a3, a4⟩, ⟨a5, a6⟩, a7, a8⟩, ⟨b1, b2, b3, b4, b5, b6, b7, b8⟩, ⟨c1, c2⟩, c3, c4⟩ := id hx
          have f1 : Fr (Wfb Y f.toNat) h (wI h d k.toNat (J n)) := Fr.sI Fr.rf ⟨a7, Or.inr (Or.inr a8)⟩
          refine Or.inr ⟨⟨by omega, by omega, by omega, by omega, by omega, by omega⟩, rfl, FC_upd hs hF (f := f.toNat) rfl rfl (fun q hq => ⟨rfl, rfl, rfl, rfl, if_neg hq⟩) f1 ⟨x, b, c, d, hx.1, hx.2.1, ⟨?_, ?_⟩, fun k2 hk2 => ?_, fun k2 hk2 => ?_⟩, f1.mono Wfb_C⟩
          · rw [mI_oth (Or.inl n3)]; exact c1
          · rw [mI_oth (Or.inl n3)]; exact c2
          · rw [mI_oth (Or.inl n5), mI_oth (Or.inl n6)]; exact c3 k2 hk2
          · show _ = nI (va_up (fS F) f.toNat (va_up (fS F f.toNat) k.toNat n.toNat) f.toNat k2)
            rw [up2]
            by_cases hk3 : k2 = k.toNat
            · rw [if_pos ⟨rfl, hk3⟩, hk3, mI_self, J_pos (by omega)]
            · rw [if_neg (fun z => hk3 z.2), mI_oth (Or.inr hk3)]
              exact c4 k2 hk2
        · refine Ex_iconst d_to_stock_33 ic_0 ?_
          refine Ex_zreturn d_to_stock_34 rfl (by decide) ?_
          exact Or.inl ⟨by unfold okSk; omega, rfl, rfl⟩
  · refine Ex_aload_n d_to_stock_0 rfl ?_
    refine Ex_iload_n d_to_stock_1 rfl ?_
    refine Ex_pV1 (v := .null) d_to_stock_2 pk_to_stock_366 (t_0 hs) (to_floorOf_n hs hF hFO hf hrr) ?_
    refine Ex_astore0 [some (.ref 0), some (.int (J (f))), some (.int (J (k))), some (.int (J (n))), some (.null)] d_to_stock_5 (Nat.le_of_ble_eq_true rfl) rfl ?_
    refine Ex_aload0 d_to_stock_7 rfl ?_
    refine Ex_ifnull0 33 d_to_stock_9 rfl ?_
    refine Ex_iconst d_to_stock_33 ic_0 ?_
    refine Ex_zreturn d_to_stock_34 rfl (by decide) ?_
    exact Or.inl ⟨fun z => hrr ⟨z.1, z.2.1⟩, rfl, rfl⟩
theorem to_shown_s {S : mj_S} {h : mj_H} (hs : HT h) {K : SK} (hK : KC K h) (hO : KO K) {F : SF} {Y : OW} (hF : FC F Y h) (hFO : FO K.1 F) {f i j : Int} (hf : -2147483648 ≤ f ∧ f < 2147483648) (hi : -2147483648 ≤ i ∧ i < 2147483648) (hj : -2147483648 ≤ j ∧ j < 2147483648) : Cl S to_shown [.ref 0, .int (J f), .int (J i), .int (J j)] h (Pu (.int (J (shownS F f i j))) h) := by
  show Ex S to_shown 0 [some (.ref 0), some (.int (J (f))), some (.int (J (i))), some (.int (J (j))), none] [] h _
  have h8 := hFO.1
  have h40 := hO.1
  by_cases hrr : 0 ≤ f ∧ f < F.1
  · obtain ⟨x, b, c, d, hx⟩ := hF.2.2 f.toNat (by omega)
    obtain ⟨hz, ho, hst⟩ := hFO.2.2 f.toNat (by omega)
    refine Ex_aload_n d_to_shown_0 rfl ?_
    refine Ex_iload_n d_to_shown_1 rfl ?_
    refine Ex_pV1 (v := .ref (x)) d_to_shown_2 pk_to_shown_366 (t_0 hs) (to_floorOf_z hs hF hFO hrr hx) ?_
    refine Ex_astore [some (.ref 0), some (.int (J (f))), some (.int (J (i))), some (.int (J (j))), some (.ref (x))] d_to_shown_5 (Nat.le_of_ble_eq_true rfl) rfl ?_
    refine Ex_aload d_to_shown_7 rfl ?_
    refine Ex_ifnull d_to_shown_9 ?_
    refine Ex_aload d_to_shown_12 rfl ?_
    refine Ex_iload_n d_to_shown_14 rfl ?_
    refine Ex_iload_n d_to_shown_15 rfl ?_
    refine Ex_pV2 (v := .int (bI (decide (0 ≤ i ∧ i < fR F f.toNat ∧ 0 ≤ j ∧ j < fC F f.toNat)))) d_to_shown_16 pk_to_shown_370 hx.2.1.2.1 (fl_hasPlace_s hFO (by omega) hx hi hj) ?_
    refine Ex_if_neB (decide (0 ≤ i ∧ i < fR F f.toNat ∧ 0 ≤ j ∧ j < fC F f.toNat)) 27 d_to_shown_19 rfl rfl (fun hc19 => ?_) (fun hc19 => ?_)
    · rw [decide_eq_true_eq] at hc19
      refine Ex_aload d_to_shown_27 rfl ?_
      refine Ex_iload_n d_to_shown_29 rfl ?_
      refine Ex_iload_n d_to_shown_30 rfl ?_
      refine Ex_pV2 (v := .int (J (shownS F f i j))) d_to_shown_31 pk_to_shown_405 hx.2.1.2.1 (by rw [show shownS F f i j = vT (fT F f.toNat (8 * i.toNat + j.toNat)) (fL F f.toNat (8 * i.toNat + j.toNat)) by unfold shownS; rw [if_pos (by omega)], J_pos (show 0 ≤ i by omega), J_pos (show 0 ≤ j by omega)]; exact fl_shownAt_s hFO (by omega) hx hO.1 (by omega) (by omega)) ?_
      refine Ex_ireturn d_to_shown_34 rfl ?_
      exact ⟨rfl, rfl⟩
    · rw [decide_eq_false_iff_not] at hc19
      refine Ex_bipush d_to_shown_22 bp_m2 ?_
      refine Ex_goto 34 d_to_shown_24 rfl ?_
      refine Ex_ireturn d_to_shown_34 rfl ?_
      exact Pu_zc (by unfold shownS; rw [if_neg (by omega)]; decide)
  · refine Ex_aload_n d_to_shown_0 rfl ?_
    refine Ex_iload_n d_to_shown_1 rfl ?_
    refine Ex_pV1 (v := .null) d_to_shown_2 pk_to_shown_366 (t_0 hs) (to_floorOf_n hs hF hFO hf hrr) ?_
    refine Ex_astore0 [some (.ref 0), some (.int (J (f))), some (.int (J (i))), some (.int (J (j))), some (.null)] d_to_shown_5 (Nat.le_of_ble_eq_true rfl) rfl ?_
    refine Ex_aload0 d_to_shown_7 rfl ?_
    refine Ex_ifnull0 22 d_to_shown_9 rfl ?_
    refine Ex_bipush d_to_shown_22 bp_m2 ?_
    refine Ex_goto 34 d_to_shown_24 rfl ?_
    refine Ex_ireturn d_to_shown_34 rfl ?_
    exact Pu_zc (by unfold shownS; rw [if_neg (by omega)]; decide)
def aboutS (K : SK) (P : SP) (R : SR) (F : SF) (G : SG) (w : Int) : Int := if w = 0 then (K.1 : Int) else if w = 1 then (pNp P : Int) else if w = 2 then (R.1 : Int) else if w = 3 then (F.1 : Int) else if w = 4 then (pMd P : Int) else if w = 5 then (G.1 : Int) else if w = 6 then (G.2.1 : Int) else if w = 7 then ((pHi P).length : Int) else if w = 8 then (fE F : Int) else -1
theorem rm_about_s {S : mj_S} {h : mj_H} (hs : HT h) {K : SK} (hK : KM K h) {P : SP} (hP : PM P h) {R : SR} (hR : RM R h) {F : SF} (hF : FM F h) {G : SG} (hG : GM G h) {w : Int} (hw : -2147483648 ≤ w ∧ w < 2147483648) : Cl S rm_about [.ref 38, .int (J w)] h (Pu (.int (J (aboutS K P R F G w))) h) := by
  show Ex S rm_about 0 [some (.ref 38), some (.int (J (w)))] [] h _
  by_cases hw0 : w = 0
  · subst hw0
    show Ex S rm_about 0 [some (.ref 38), some (.int (0))] [] h _
    refine Ex_iload_n d_rm_about_0 rfl ?_
    refine Ex_swIn 52 d_rm_about_1 (by decide) (by decide) rfl rfl ?_
    refine Ex_aload_n d_rm_about_52 rfl ?_
    refine Ex_getIE (y := (nI (K.1))) d_rm_about_53 pf_rm_128 rfl (t_38 hs) hK.1 ?_
    refine Ex_ireturn d_rm_about_56 rfl ?_
    exact Pu_nz rfl
  by_cases hw1 : w = 1
  · subst hw1
    show Ex S rm_about 0 [some (.ref 38), some (.int (1))] [] h _
    refine Ex_iload_n d_rm_about_0 rfl ?_
    refine Ex_swIn 57 d_rm_about_1 (by decide) (by decide) rfl rfl ?_
    refine Ex_aload_n d_rm_about_57 rfl ?_
    refine Ex_getIE (y := (nI (pNp P))) d_rm_about_58 pf_rm_169 rfl (t_38 hs) hP.2.1.1 ?_
    refine Ex_ireturn d_rm_about_61 rfl ?_
    exact Pu_nz rfl
  by_cases hw2 : w = 2
  · subst hw2
    show Ex S rm_about 0 [some (.ref 38), some (.int (2))] [] h _
    refine Ex_iload_n d_rm_about_0 rfl ?_
    refine Ex_swIn 62 d_rm_about_1 (by decide) (by decide) rfl rfl ?_
    refine Ex_aload_n d_rm_about_62 rfl ?_
    refine Ex_getIE (y := (nI (R.1))) d_rm_about_63 pf_rm_238 rfl (t_38 hs) hR.1 ?_
    refine Ex_ireturn d_rm_about_66 rfl ?_
    exact Pu_nz rfl
  by_cases hw3 : w = 3
  · subst hw3
    show Ex S rm_about 0 [some (.ref 38), some (.int (3))] [] h _
    refine Ex_iload_n d_rm_about_0 rfl ?_
    refine Ex_swIn 67 d_rm_about_1 (by decide) (by decide) rfl rfl ?_
    refine Ex_aload_n d_rm_about_67 rfl ?_
    refine Ex_getIE (y := (nI (F.1))) d_rm_about_68 pf_rm_285 rfl (t_38 hs) hF.1 ?_
    refine Ex_ireturn d_rm_about_71 rfl ?_
    exact Pu_nz rfl
  by_cases hw4 : w = 4
  · subst hw4
    show Ex S rm_about 0 [some (.ref 38), some (.int (4))] [] h _
    refine Ex_iload_n d_rm_about_0 rfl ?_
    refine Ex_swIn 72 d_rm_about_1 (by decide) (by decide) rfl rfl ?_
    refine Ex_aload_n d_rm_about_72 rfl ?_
    refine Ex_getIE (y := (nI (pMd P))) d_rm_about_73 pf_rm_172 rfl (t_38 hs) hP.1.1 ?_
    refine Ex_ireturn d_rm_about_76 rfl ?_
    exact Pu_nz rfl
  by_cases hw5 : w = 5
  · subst hw5
    show Ex S rm_about 0 [some (.ref 38), some (.int (5))] [] h _
    refine Ex_iload_n d_rm_about_0 rfl ?_
    refine Ex_swIn 77 d_rm_about_1 (by decide) (by decide) rfl rfl ?_
    refine Ex_aload_n d_rm_about_77 rfl ?_
    refine Ex_getIE (y := (nI (G.1))) d_rm_about_78 pf_rm_221 rfl (t_38 hs) hG.1 ?_
    refine Ex_ireturn d_rm_about_81 rfl ?_
    exact Pu_nz rfl
  by_cases hw6 : w = 6
  · subst hw6
    show Ex S rm_about 0 [some (.ref 38), some (.int (6))] [] h _
    refine Ex_iload_n d_rm_about_0 rfl ?_
    refine Ex_swIn 82 d_rm_about_1 (by decide) (by decide) rfl rfl ?_
    refine Ex_aload_n d_rm_about_82 rfl ?_
    refine Ex_getIE (y := (nI (G.2.1))) d_rm_about_83 pf_rm_224 rfl (t_38 hs) hG.2.1 ?_
    refine Ex_ireturn d_rm_about_86 rfl ?_
    exact Pu_nz rfl
  by_cases hw7 : w = 7
  · subst hw7
    show Ex S rm_about 0 [some (.ref 38), some (.int (7))] [] h _
    refine Ex_iload_n d_rm_about_0 rfl ?_
    refine Ex_swIn 87 d_rm_about_1 (by decide) (by decide) rfl rfl ?_
    refine Ex_aload_n d_rm_about_87 rfl ?_
    refine Ex_getIE (y := (nI ((pHi P).length))) d_rm_about_88 pf_rm_184 rfl (t_38 hs) hP.2.2.1 ?_
    refine Ex_ireturn d_rm_about_91 rfl ?_
    exact Pu_nz rfl
  by_cases hw8 : w = 8
  · subst hw8
    show Ex S rm_about 0 [some (.ref 38), some (.int (8))] [] h _
    refine Ex_iload_n d_rm_about_0 rfl ?_
    refine Ex_swIn 92 d_rm_about_1 (by decide) (by decide) rfl rfl ?_
    refine Ex_aload_n d_rm_about_92 rfl ?_
    refine Ex_getIE (y := (nI (fE F))) d_rm_about_93 pf_rm_344 rfl (t_38 hs) hF.2.1 ?_
    refine Ex_ireturn d_rm_about_96 rfl ?_
    exact Pu_nz rfl
  refine Ex_iload_n d_rm_about_0 rfl ?_
  refine Ex_swOut 97 d_rm_about_1 (by rw [J_toInt hw.1 hw.2]; omega) rfl ?_
  refine Ex_iconst d_rm_about_97 ic_m1 ?_
  refine Ex_ireturn d_rm_about_98 rfl ?_
  exact Pu_m1 (by unfold aboutS; rw [if_neg hw0, if_neg hw1, if_neg hw2, if_neg hw3, if_neg hw4, if_neg hw5, if_neg hw6, if_neg hw7, if_neg hw8])
theorem to_about_s {S : mj_S} {h : mj_H} (hs : HT h) {K : SK} (hK : KC K h) {P : SP} {Y : OW} (hP : PC P Y h) {R : SR} (hR : RuC R Y h) {F : SF} (hF : FC F Y h) {G : SG} (hG : GC G h) {w : Int} (hw : -2147483648 ≤ w ∧ w < 2147483648) : Cl S to_about [.ref 0, .int (J w)] h (Pu (.int (J (aboutS K P R F G w))) h) := by
  show Ex S to_about 0 [some (.ref 0), some (.int (J (w)))] [] h _
  by_cases hw0 : w = 0
  · subst hw0
    show Ex S to_about 0 [some (.ref 0), some (.int (0))] [] h _
    refine Ex_iload_n d_to_about_0 rfl ?_
    refine Ex_swIn 52 d_to_about_1 (by decide) (by decide) rfl rfl ?_
    refine Ex_aload_n d_to_about_52 rfl ?_
    refine Ex_getR (v := .ref 1) d_to_about_53 pf_to_20 rfl (t_0 hs) (r_0_0 hs) ?_
    refine Ex_getIE (y := (nI (K.1))) d_to_about_56 pf_to_417 rfl (t_1 hs) hK.1 ?_
    refine Ex_ireturn d_to_about_59 rfl ?_
    exact Pu_nz rfl
  by_cases hw1 : w = 1
  · subst hw1
    show Ex S to_about 0 [some (.ref 0), some (.int (1))] [] h _
    refine Ex_iload_n d_to_about_0 rfl ?_
    refine Ex_swIn 60 d_to_about_1 (by decide) (by decide) rfl rfl ?_
    refine Ex_aload_n d_to_about_60 rfl ?_
    refine Ex_getIE (y := (nI (pNp P))) d_to_about_61 pf_to_128 rfl (t_0 hs) hP.2.1.1 ?_
    refine Ex_ireturn d_to_about_64 rfl ?_
    exact Pu_nz rfl
  by_cases hw2 : w = 2
  · subst hw2
    show Ex S to_about 0 [some (.ref 0), some (.int (2))] [] h _
    refine Ex_iload_n d_to_about_0 rfl ?_
    refine Ex_swIn 65 d_to_about_1 (by decide) (by decide) rfl rfl ?_
    refine Ex_aload_n d_to_about_65 rfl ?_
    refine Ex_getIE (y := (nI (R.1))) d_to_about_66 pf_to_263 rfl (t_0 hs) hR.1 ?_
    refine Ex_ireturn d_to_about_69 rfl ?_
    exact Pu_nz rfl
  by_cases hw3 : w = 3
  · subst hw3
    show Ex S to_about 0 [some (.ref 0), some (.int (3))] [] h _
    refine Ex_iload_n d_to_about_0 rfl ?_
    refine Ex_swIn 70 d_to_about_1 (by decide) (by decide) rfl rfl ?_
    refine Ex_aload_n d_to_about_70 rfl ?_
    refine Ex_getIE (y := (nI (F.1))) d_to_about_71 pf_to_361 rfl (t_0 hs) hF.1 ?_
    refine Ex_ireturn d_to_about_74 rfl ?_
    exact Pu_nz rfl
  by_cases hw4 : w = 4
  · subst hw4
    show Ex S to_about 0 [some (.ref 0), some (.int (4))] [] h _
    refine Ex_iload_n d_to_about_0 rfl ?_
    refine Ex_swIn 75 d_to_about_1 (by decide) (by decide) rfl rfl ?_
    refine Ex_aload_n d_to_about_75 rfl ?_
    refine Ex_getR (v := .ref 21) d_to_about_76 pf_to_42 rfl (t_0 hs) (r_0_1 hs) ?_
    refine Ex_getIE (y := (nI (pMd P))) d_to_about_79 pf_to_418 rfl (t_21 hs) hP.1.1 ?_
    refine Ex_ireturn d_to_about_82 rfl ?_
    exact Pu_nz rfl
  by_cases hw5 : w = 5
  · subst hw5
    show Ex S to_about 0 [some (.ref 0), some (.int (5))] [] h _
    refine Ex_iload_n d_to_about_0 rfl ?_
    refine Ex_swIn 83 d_to_about_1 (by decide) (by decide) rfl rfl ?_
    refine Ex_aload_n d_to_about_83 rfl ?_
    refine Ex_getR (v := .ref 29) d_to_about_84 pf_to_64 rfl (t_0 hs) (r_0_5 hs) ?_
    refine Ex_getIE (y := (nI (G.1))) d_to_about_87 pf_to_243 rfl (t_29 hs) hG.1 ?_
    refine Ex_ireturn d_to_about_90 rfl ?_
    exact Pu_nz rfl
  by_cases hw6 : w = 6
  · subst hw6
    show Ex S to_about 0 [some (.ref 0), some (.int (6))] [] h _
    refine Ex_iload_n d_to_about_0 rfl ?_
    refine Ex_swIn 91 d_to_about_1 (by decide) (by decide) rfl rfl ?_
    refine Ex_aload_n d_to_about_91 rfl ?_
    refine Ex_getR (v := .ref 29) d_to_about_92 pf_to_64 rfl (t_0 hs) (r_0_5 hs) ?_
    refine Ex_getIE (y := (nI (G.2.1))) d_to_about_95 pf_to_254 rfl (t_29 hs) hG.2.1 ?_
    refine Ex_ireturn d_to_about_98 rfl ?_
    exact Pu_nz rfl
  by_cases hw7 : w = 7
  · subst hw7
    show Ex S to_about 0 [some (.ref 0), some (.int (7))] [] h _
    refine Ex_iload_n d_to_about_0 rfl ?_
    refine Ex_swIn 99 d_to_about_1 (by decide) (by decide) rfl rfl ?_
    refine Ex_aload_n d_to_about_99 rfl ?_
    refine Ex_getR (v := .ref 25) d_to_about_100 pf_to_55 rfl (t_0 hs) (r_0_4 hs) ?_
    refine Ex_getIE (y := (nI ((pHi P).length))) d_to_about_103 pf_to_408 rfl (t_25 hs) hP.2.2.1 ?_
    refine Ex_ireturn d_to_about_106 rfl ?_
    exact Pu_nz rfl
  by_cases hw8 : w = 8
  · subst hw8
    show Ex S to_about 0 [some (.ref 0), some (.int (8))] [] h _
    refine Ex_iload_n d_to_about_0 rfl ?_
    refine Ex_swIn 107 d_to_about_1 (by decide) (by decide) rfl rfl ?_
    refine Ex_aload_n d_to_about_107 rfl ?_
    refine Ex_getR (v := .ref 18) d_to_about_108 pf_to_35 rfl (t_0 hs) (r_0_14 hs) ?_
    refine Ex_getIE (y := (nI (fE F))) d_to_about_111 pf_to_421 rfl (t_18 hs) hF.2.1 ?_
    refine Ex_ireturn d_to_about_114 rfl ?_
    exact Pu_nz rfl
  refine Ex_iload_n d_to_about_0 rfl ?_
  refine Ex_swOut 115 d_to_about_1 (by rw [J_toInt hw.1 hw.2]; omega) rfl ?_
  refine Ex_iconst d_to_about_115 ic_m1 ?_
  refine Ex_ireturn d_to_about_116 rfl ?_
  exact Pu_m1 (by unfold aboutS; rw [if_neg hw0, if_neg hw1, if_neg hw2, if_neg hw3, if_neg hw4, if_neg hw5, if_neg hw6, if_neg hw7, if_neg hw8])
