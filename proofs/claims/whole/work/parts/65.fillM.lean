/-! The reference: fill, fills, cheapest. -/
def AnsR (c : Prop) (v : Int) (R' : mj_H → Prop) (W : Nat → Nat → Prop) (h : mj_H) : Option Value → mj_H → Prop := fun r h' => (¬ c ∧ r = some (.int (-1)) ∧ h' = h) ∨ (c ∧ r = some (.int (J v)) ∧ R' h' ∧ Fr W h h')
def fillV (q : ZS × Bool) : Int := if 0 < zf q.1 then 1 else if q.2 = true then 2 else 0
def fillsV (q : ZS × Bool) : Int := if q.2 = true then -2 else (zf q.1 : Int)
def cheapV (q : ZS × Bool) : Int := if q.2 = true then -3 else if 0 < zf q.1 then (zb q.1 : Int) else -2
def setO (F : SF) (f : Nat) (q : ZS × Bool) : SF := setF F f (zG q.1) (ze q.1)
theorem FZ_67 {F : SF} {h : mj_H} (hZ : FZ F) (hF : FM F h) {f : Nat} (hf : f < F.1) : ∀ k, k < 64 → ¬ inF F f k → mI h 67 (64 * f + k) = 0 := fun k hk hi => by
  rw [((hF.2.2 f hf).2.1 k hk).2, (hZ f k hf hi).2]
  rfl
theorem oc_t {K : SK} {F : SF} {f w : Nat} {y : Bool} (h : gdS K F f 64 = true) : ocS K F f w y = srS K F f w y := if_pos h
theorem oc_f {K : SK} {F : SF} {f w : Nat} {y : Bool} (h : gdS K F f 64 = false) : ocS K F f w y = (Zi F f 0, false) := if_neg (by rw [h]; decide)
theorem FM_f {F : SF} {f : Nat} {h h1 : mj_H} (hs : HT h) (hF : FM F h) {K : SK} (hst : stP K F f h h1) : FM (setF F f (fun _ => none) (fE F)) h1 := FM_setF hs hF (hst.1.mono Wst_sr) (by rw [hst.1.I (by have := HT_n hs; omega) (by unfold Wst; omega)]; exact hF.2.1) hst.2.2.2
theorem FM_e {F : SF} {f : Nat} {h h1 h2 : mj_H} (hs : HT h) (hF : FM F h) {K : SK} (hst : stP K F f h h1) {q : ZS × Bool} (hq : sE f q h1 h2) : FM (setO F f q) h2 := FM_setF hs hF ((hst.1.mono Wst_sr).tr hq.1) hq.2.1.2.2.1 hq.2.2
theorem rm_fill_s {S : mj_S} {h : mj_H} (hs : HT h) {K : SK} (hK : KM K h) (hO : KO K) {F : SF} (hF : FM F h) (hFO : FO K.1 F) (hZ : FZ F) {z : Int} (hz : -2147483648 ≤ z ∧ z < 2147483648) : Cl S rm_fill [.ref 38, .int (J (z))] h (AnsR (0 ≤ z ∧ z < F.1) (fillV (ocS K F z.toNat 1 false)) (FM (setO F z.toNat (ocS K F z.toNat 1 false))) WSA h) := by
  show Ex S rm_fill 0 [some (.ref 38), some (.int (J (z)))] [] h _
  refine Ex_aload_n d_rm_fill_0 rfl ?_
  refine Ex_iload_n d_rm_fill_1 rfl ?_
  refine Ex_pV1 (v := .int (bI (decide (0 ≤ z ∧ z < F.1)))) d_rm_fill_2 pk_rm_fill_288 (t_38 hs) (rm_isFloor_s hs hF hFO hz) ?_
  refine Ex_if_neB (decide (0 ≤ z ∧ z < F.1)) 10 d_rm_fill_5 rfl rfl (fun hc5 => ?_) (fun hc5 => ?_)
  · rw [decide_eq_true_eq] at hc5
    obtain ⟨f, rfl⟩ : ∃ f : Nat, z = (f : Int) := ⟨z.toNat, by omega⟩
    simp only [← nIJ]
    refine Ex_aload_n d_rm_fill_10 rfl ?_
    refine Ex_iload_n d_rm_fill_11 rfl ?_
    refine Ex_cV1 d_rm_fill_12 pk_rm_fill_351 (t_38 hs) (rm_starts_s hs hK hO hFO (f := f) (by omega) (FT1_M (by omega) hF) (FZ_67 hZ hF (by omega))) ?_
    rintro rv h1 ⟨rfl, hst⟩
    obtain ⟨hst1, hst2, ⟨n, o, hst3⟩, hst4⟩ := id hst
    have frs := hst1.mono (Wst_sr (f := f))
    have hs1 : HT h1 := frs.ht hs (WSM_st f)
    show Ex S rm_fill 15 [some (.ref 38), some (.int (nI (f)))] [.int (bI (gdS K F f 64))] h1 _
    refine Ex_if_neB (gdS K F f 64) 20 d_rm_fill_15 rfl rfl (fun hc15 => ?_) (fun hc15 => ?_)
    · refine Ex_aload_n d_rm_fill_20 rfl ?_
      refine Ex_iconst d_rm_fill_21 ic_1 ?_
      refine Ex_iconst d_rm_fill_22 ic_0 ?_
      refine Ex_cV2 d_rm_fill_23 pk_rm_fill_354 (t_38 hs1) (rm_search_s hs1 (KM_sr hs frs hK) hO hFO (f := f) (by omega) (FT1_sr hs frs (FT1_M (by omega) hF)) hst2 hst3 (by rw [hst1.I (by have := HT_n hs; omega) (by unfold Wst; omega)]; exact hF.2.1) hst4 (w := 1) (by omega) (y := false)) ?_
      rintro rv h2 ⟨rfl, hq⟩
      have hs2 : HT h2 := (frs.tr hq.1).ht hs (WSM_st f)
      have hR := sr_R (f := f) (w := 1) (y := false) hO hFO
      have hfr2 := (frs.tr hq.1).mono WSM_A
      show Ex S rm_fill 26 [some (.ref 38), some (.int (nI (f)))] [] h2 _
      refine Ex_aload_n d_rm_fill_26 rfl ?_
      refine Ex_getIE (y := (nI (zf (srS K F f (1) false).1))) d_rm_fill_27 pf_rm_319 rfl (t_38 hs2) hq.2.1.1 ?_
      refine Ex_if_leN (zf (srS K F f (1) false).1) 37 d_rm_fill_30 rfl rfl (by have := hR.1; omega) (fun hc30 => ?_) (fun hc30 => ?_)
      · refine Ex_aload_n d_rm_fill_37 rfl ?_
        refine Ex_getIE (y := (bI ((srS K F f (1) false).2))) d_rm_fill_38 pf_rm_325 rfl (t_38 hs2) hq.2.1.2.2.2 ?_
        refine Ex_if_eqB ((srS K F f (1) false).2) 48 d_rm_fill_41 rfl rfl (fun hc41 => ?_) (fun hc41 => ?_)
        · refine Ex_iconst d_rm_fill_48 ic_0 ?_
          refine Ex_ireturn d_rm_fill_49 rfl ?_
          refine Or.inr ⟨by omega, ?_, ?_, hfr2⟩
          · rw [Int.toNat_natCast, oc_t hc15]
            unfold fillV
            rw [if_neg (by omega), if_neg (by rw [hc41]; decide)]; rfl
          · rw [Int.toNat_natCast, oc_t hc15]; exact FM_e hs hF hst hq
        · refine Ex_iconst d_rm_fill_44 ic_2 ?_
          refine Ex_goto 49 d_rm_fill_45 rfl ?_
          refine Ex_ireturn d_rm_fill_49 rfl ?_
          refine Or.inr ⟨by omega, ?_, ?_, hfr2⟩
          · rw [Int.toNat_natCast, oc_t hc15]
            unfold fillV
            rw [if_neg (by omega), if_pos hc41]; rfl
          · rw [Int.toNat_natCast, oc_t hc15]; exact FM_e hs hF hst hq
      · refine Ex_iconst d_rm_fill_33 ic_1 ?_
        refine Ex_goto 49 d_rm_fill_34 rfl ?_
        refine Ex_ireturn d_rm_fill_49 rfl ?_
        refine Or.inr ⟨by omega, ?_, ?_, hfr2⟩
        · rw [Int.toNat_natCast, oc_t hc15]
          unfold fillV
          rw [if_pos (by omega)]; rfl
        · rw [Int.toNat_natCast, oc_t hc15]; exact FM_e hs hF hst hq
    · refine Ex_iconst d_rm_fill_18 ic_0 ?_
      refine Ex_ireturn d_rm_fill_19 rfl ?_
      refine Or.inr ⟨by omega, ?_, ?_, frs.mono WSM_A⟩
      · rw [Int.toNat_natCast, oc_f hc15]; rfl
      · rw [Int.toNat_natCast, oc_f hc15]; exact FM_f hs hF hst
  · rw [decide_eq_false_iff_not] at hc5
    refine Ex_iconst d_rm_fill_8 ic_m1 ?_
    refine Ex_ireturn d_rm_fill_9 rfl ?_
    exact Or.inl ⟨by omega, rfl, rfl⟩
theorem rm_fills_s {S : mj_S} {h : mj_H} (hs : HT h) {K : SK} (hK : KM K h) (hO : KO K) {F : SF} (hF : FM F h) (hFO : FO K.1 F) (hZ : FZ F) {z m : Int} (hz : -2147483648 ≤ z ∧ z < 2147483648) (hm : -2147483648 ≤ m ∧ m < 2147483648) : Cl S rm_fills [.ref 38, .int (J (z)), .int (J (m))] h (AnsR ((0 ≤ z ∧ z < F.1) ∧ 1 ≤ m ∧ m ≤ 1000) (fillsV (ocS K F z.toNat m.toNat false)) (FM (setO F z.toNat (ocS K F z.toNat m.toNat false))) WSA h) := by
  show Ex S rm_fills 0 [some (.ref 38), some (.int (J (z))), some (.int (J (m)))] [] h _
  refine Ex_aload_n d_rm_fills_0 rfl ?_
  refine Ex_iload_n d_rm_fills_1 rfl ?_
  refine Ex_pV1 (v := .int (bI (decide (0 ≤ z ∧ z < F.1)))) d_rm_fills_2 pk_rm_fills_288 (t_38 hs) (rm_isFloor_s hs hF hFO hz) ?_
  refine Ex_if_eqB (decide (0 ≤ z ∧ z < F.1)) 20 d_rm_fills_5 rfl rfl (fun hc5 => ?_) (fun hc5 => ?_)
  · rw [decide_eq_false_iff_not] at hc5
    refine Ex_iconst d_rm_fills_20 ic_m1 ?_
    refine Ex_ireturn d_rm_fills_21 rfl ?_
    exact Or.inl ⟨by omega, rfl, rfl⟩
  · rw [decide_eq_true_eq] at hc5
    refine Ex_iload_n d_rm_fills_8 rfl ?_
    refine Ex_iconst d_rm_fills_9 ic_1 ?_
    refine Ex_icmp_ltZ (m) ((1)) 20 d_rm_fills_10 rfl rfl (by decide) (by omega) (by omega) (fun hc10 => ?_) (fun hc10 => ?_)
    · refine Ex_iconst d_rm_fills_20 ic_m1 ?_
      refine Ex_ireturn d_rm_fills_21 rfl ?_
      exact Or.inl ⟨by omega, rfl, rfl⟩
    · refine Ex_iload_n d_rm_fills_13 rfl ?_
      refine Ex_sipush d_rm_fills_14 sp_1000 ?_
      refine Ex_icmp_leZ (m) ((1000)) 22 d_rm_fills_17 rfl rfl (by decide) (by omega) (by omega) (fun hc17 => ?_) (fun hc17 => ?_)
      · obtain ⟨f, rfl⟩ : ∃ f : Nat, z = (f : Int) := ⟨z.toNat, by omega⟩
        obtain ⟨c, rfl⟩ : ∃ c : Nat, m = (c : Int) := ⟨m.toNat, by omega⟩
        simp only [← nIJ]
        refine Ex_aload_n d_rm_fills_22 rfl ?_
        refine Ex_iload_n d_rm_fills_23 rfl ?_
        refine Ex_cV1 d_rm_fills_24 pk_rm_fills_351 (t_38 hs) (rm_starts_s hs hK hO hFO (f := f) (by omega) (FT1_M (by omega) hF) (FZ_67 hZ hF (by omega))) ?_
        rintro rv h1 ⟨rfl, hst⟩
        obtain ⟨hst1, hst2, ⟨n, o, hst3⟩, hst4⟩ := id hst
        have frs := hst1.mono (Wst_sr (f := f))
        have hs1 : HT h1 := frs.ht hs (WSM_st f)
        show Ex S rm_fills 27 [some (.ref 38), some (.int (nI (f))), some (.int (nI (c)))] [.int (bI (gdS K F f 64))] h1 _
        refine Ex_if_neB (gdS K F f 64) 32 d_rm_fills_27 rfl rfl (fun hc27 => ?_) (fun hc27 => ?_)
        · refine Ex_aload_n d_rm_fills_32 rfl ?_
          refine Ex_iload_n d_rm_fills_33 rfl ?_
          refine Ex_iconst d_rm_fills_34 ic_0 ?_
          refine Ex_cV2 d_rm_fills_35 pk_rm_fills_354 (t_38 hs1) (rm_search_s hs1 (KM_sr hs frs hK) hO hFO (f := f) (by omega) (FT1_sr hs frs (FT1_M (by omega) hF)) hst2 hst3 (by rw [hst1.I (by have := HT_n hs; omega) (by unfold Wst; omega)]; exact hF.2.1) hst4 (w := c) (by omega) (y := false)) ?_
          rintro rv h2 ⟨rfl, hq⟩
          have hs2 : HT h2 := (frs.tr hq.1).ht hs (WSM_st f)
          have hR := sr_R (f := f) (w := c) (y := false) hO hFO
          have hfr2 := (frs.tr hq.1).mono WSM_A
          show Ex S rm_fills 38 [some (.ref 38), some (.int (nI (f))), some (.int (nI (c)))] [] h2 _
          refine Ex_aload_n d_rm_fills_38 rfl ?_
          refine Ex_getIE (y := (bI ((srS K F f (c) false).2))) d_rm_fills_39 pf_rm_325 rfl (t_38 hs2) hq.2.1.2.2.2 ?_
          refine Ex_if_eqB ((srS K F f (c) false).2) 50 d_rm_fills_42 rfl rfl (fun hc42 => ?_) (fun hc42 => ?_)
          · refine Ex_aload_n d_rm_fills_50 rfl ?_
            refine Ex_getIE (y := (nI (zf (srS K F f (c) false).1))) d_rm_fills_51 pf_rm_319 rfl (t_38 hs2) hq.2.1.1 ?_
            refine Ex_ireturn d_rm_fills_54 rfl ?_
            refine Or.inr ⟨by omega, ?_, ?_, hfr2⟩
            · rw [Int.toNat_natCast, Int.toNat_natCast, oc_t hc27]
              unfold fillsV
              rw [if_neg (by rw [hc42]; decide), nIJ]
            · rw [Int.toNat_natCast, Int.toNat_natCast, oc_t hc27]; exact FM_e hs hF hst hq
          · refine Ex_bipush d_rm_fills_45 bp_m2 ?_
            refine Ex_goto 54 d_rm_fills_47 rfl ?_
            refine Ex_ireturn d_rm_fills_54 rfl ?_
            refine Or.inr ⟨by omega, ?_, ?_, hfr2⟩
            · rw [Int.toNat_natCast, Int.toNat_natCast, oc_t hc27]
              unfold fillsV
              rw [if_pos hc42]; rfl
            · rw [Int.toNat_natCast, Int.toNat_natCast, oc_t hc27]; exact FM_e hs hF hst hq
        · refine Ex_iconst d_rm_fills_30 ic_0 ?_
          refine Ex_ireturn d_rm_fills_31 rfl ?_
          refine Or.inr ⟨by omega, ?_, ?_, frs.mono WSM_A⟩
          · rw [Int.toNat_natCast, Int.toNat_natCast, oc_f hc27]; rfl
          · rw [Int.toNat_natCast, Int.toNat_natCast, oc_f hc27]; exact FM_f hs hF hst
      · refine Ex_iconst d_rm_fills_20 ic_m1 ?_
        refine Ex_ireturn d_rm_fills_21 rfl ?_
        exact Or.inl ⟨by omega, rfl, rfl⟩
theorem rm_cheapest_s {S : mj_S} {h : mj_H} (hs : HT h) {K : SK} (hK : KM K h) (hO : KO K) {F : SF} (hF : FM F h) (hFO : FO K.1 F) (hZ : FZ F) {z : Int} (hz : -2147483648 ≤ z ∧ z < 2147483648) : Cl S rm_cheapest [.ref 38, .int (J (z))] h (AnsR (0 ≤ z ∧ z < F.1) (cheapV (ocS K F z.toNat 1000000 true)) (FM (setO F z.toNat (ocS K F z.toNat 1000000 true))) WSA h) := by
  show Ex S rm_cheapest 0 [some (.ref 38), some (.int (J (z)))] [] h _
  refine Ex_aload_n d_rm_cheapest_0 rfl ?_
  refine Ex_iload_n d_rm_cheapest_1 rfl ?_
  refine Ex_pV1 (v := .int (bI (decide (0 ≤ z ∧ z < F.1)))) d_rm_cheapest_2 pk_rm_cheapest_288 (t_38 hs) (rm_isFloor_s hs hF hFO hz) ?_
  refine Ex_if_neB (decide (0 ≤ z ∧ z < F.1)) 10 d_rm_cheapest_5 rfl rfl (fun hc5 => ?_) (fun hc5 => ?_)
  · rw [decide_eq_true_eq] at hc5
    obtain ⟨f, rfl⟩ : ∃ f : Nat, z = (f : Int) := ⟨z.toNat, by omega⟩
    simp only [← nIJ]
    refine Ex_aload_n d_rm_cheapest_10 rfl ?_
    refine Ex_iload_n d_rm_cheapest_11 rfl ?_
    refine Ex_cV1 d_rm_cheapest_12 pk_rm_cheapest_351 (t_38 hs) (rm_starts_s hs hK hO hFO (f := f) (by omega) (FT1_M (by omega) hF) (FZ_67 hZ hF (by omega))) ?_
    rintro rv h1 ⟨rfl, hst⟩
    obtain ⟨hst1, hst2, ⟨n, o, hst3⟩, hst4⟩ := id hst
    have frs := hst1.mono (Wst_sr (f := f))
    have hs1 : HT h1 := frs.ht hs (WSM_st f)
    show Ex S rm_cheapest 15 [some (.ref 38), some (.int (nI (f)))] [.int (bI (gdS K F f 64))] h1 _
    refine Ex_if_neB (gdS K F f 64) 21 d_rm_cheapest_15 rfl rfl (fun hc15 => ?_) (fun hc15 => ?_)
    · refine Ex_aload_n d_rm_cheapest_21 rfl ?_
      refine Ex_ldc_w pi_rm_358 d_rm_cheapest_22 ?_
      refine Ex_iconst d_rm_cheapest_25 ic_1 ?_
      refine Ex_cV2 d_rm_cheapest_26 pk_rm_cheapest_354 (t_38 hs1) (rm_search_s hs1 (KM_sr hs frs hK) hO hFO (f := f) (by omega) (FT1_sr hs frs (FT1_M (by omega) hF)) hst2 hst3 (by rw [hst1.I (by have := HT_n hs; omega) (by unfold Wst; omega)]; exact hF.2.1) hst4 (w := 1000000) (by omega) (y := true)) ?_
      rintro rv h2 ⟨rfl, hq⟩
      have hs2 : HT h2 := (frs.tr hq.1).ht hs (WSM_st f)
      have hR := sr_R (f := f) (w := 1000000) (y := true) hO hFO
      have hfr2 := (frs.tr hq.1).mono WSM_A
      show Ex S rm_cheapest 29 [some (.ref 38), some (.int (nI (f)))] [] h2 _
      refine Ex_aload_n d_rm_cheapest_29 rfl ?_
      refine Ex_getIE (y := (bI ((srS K F f (1000000) true).2))) d_rm_cheapest_30 pf_rm_325 rfl (t_38 hs2) hq.2.1.2.2.2 ?_
      refine Ex_if_eqB ((srS K F f (1000000) true).2) 41 d_rm_cheapest_33 rfl rfl (fun hc33 => ?_) (fun hc33 => ?_)
      · refine Ex_aload_n d_rm_cheapest_41 rfl ?_
        refine Ex_getIE (y := (nI (zf (srS K F f (1000000) true).1))) d_rm_cheapest_42 pf_rm_319 rfl (t_38 hs2) hq.2.1.1 ?_
        refine Ex_if_leN (zf (srS K F f (1000000) true).1) 55 d_rm_cheapest_45 rfl rfl (by have := hR.1; omega) (fun hc45 => ?_) (fun hc45 => ?_)
        · refine Ex_bipush d_rm_cheapest_55 bp_m2 ?_
          refine Ex_ireturn d_rm_cheapest_57 rfl ?_
          refine Or.inr ⟨by omega, ?_, ?_, hfr2⟩
          · rw [Int.toNat_natCast, oc_t hc15]
            unfold cheapV
            rw [if_neg (by rw [hc33]; decide), if_neg (by omega)]; rfl
          · rw [Int.toNat_natCast, oc_t hc15]; exact FM_e hs hF hst hq
        · refine Ex_aload_n d_rm_cheapest_48 rfl ?_
          refine Ex_getIE (y := (J (bsZ (srS K F f (1000000) true).1))) d_rm_cheapest_49 pf_rm_322 rfl (t_38 hs2) hq.2.1.2.1 ?_
          refine Ex_goto 57 d_rm_cheapest_52 rfl ?_
          refine Ex_ireturn d_rm_cheapest_57 rfl ?_
          refine Or.inr ⟨by omega, ?_, ?_, hfr2⟩
          · rw [Int.toNat_natCast, oc_t hc15]
            unfold cheapV
            rw [if_neg (by rw [hc33]; decide), if_pos (by omega)]; unfold bsZ; rw [if_neg (by omega)]
          · rw [Int.toNat_natCast, oc_t hc15]; exact FM_e hs hF hst hq
      · refine Ex_bipush d_rm_cheapest_36 bp_m3 ?_
        refine Ex_goto 57 d_rm_cheapest_38 rfl ?_
        refine Ex_ireturn d_rm_cheapest_57 rfl ?_
        refine Or.inr ⟨by omega, ?_, ?_, hfr2⟩
        · rw [Int.toNat_natCast, oc_t hc15]
          unfold cheapV
          rw [if_pos hc33]; rfl
        · rw [Int.toNat_natCast, oc_t hc15]; exact FM_e hs hF hst hq
    · refine Ex_bipush d_rm_cheapest_18 bp_m2 ?_
      refine Ex_ireturn d_rm_cheapest_20 rfl ?_
      refine Or.inr ⟨by omega, ?_, ?_, frs.mono WSM_A⟩
      · rw [Int.toNat_natCast, oc_f hc15]; rfl
      · rw [Int.toNat_natCast, oc_f hc15]; exact FM_f hs hF hst
  · rw [decide_eq_false_iff_not] at hc5
    refine Ex_iconst d_rm_cheapest_8 ic_m1 ?_
    refine Ex_ireturn d_rm_cheapest_9 rfl ?_
    exact Or.inl ⟨by omega, rfl, rfl⟩
