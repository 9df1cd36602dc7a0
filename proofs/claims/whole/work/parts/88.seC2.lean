/-! The class: THE SEARCH, laying, lifting and filling. -/
theorem ZC_la {K : SK} {F : SF} {f n s : Nat} {cd : Nat → Nat} {e0 : Nat} {y : Bool} {a : Nat} {Y : OW} {A B C D : Nat} {Z : ZS} {h h2 : mj_H} (hs : HT h) (hZ : ZC K F f n s cd e0 y a Y A B C D Z h) {c : Nat} (hc : c < s) (w1 : BS K F f s cd (lyS (zL Z) (zp Z (zd Z)) (some (cd c / 8, cd c % 8))) (leS (zl Z) (cd c / 8) (zl Z (cd c / 8) - 1)) h2) (w2 : Fr Wlc (hNT K Z e0 c (cd c) h) h2) : ZC K F f n s cd e0 y a Y A B C D (laZ K Z (cd c)) h2 ∧ Fr (WSr C) h h2 := by
  have hn := HT_n hs
  have hm : mN (hNT K Z e0 c (cd c) h) = mN h := rfl
  have hs1 : HT (hNT K Z e0 c (cd c) h) := hs
  have f1 : Fr (fun a k => (a = 18 ∧ (k = 5 ∨ k = 7 ∨ k = 9)) ∨ (a = 20 ∧ k = zd Z)) h (hNT K Z e0 c (cd c) h) := (((Fr.rf.sI (Or.inl ⟨rfl, Or.inl rfl⟩)).sI (Or.inl ⟨rfl, Or.inr (Or.inr rfl)⟩)).sI (Or.inr ⟨rfl, rfl⟩)).sI (Or.inl ⟨rfl, Or.inr (Or.inl rfl)⟩)
  obtain ⟨z1, ⟨z2, z3⟩, ⟨⟨b1, b2, b3⟩, ⟨b4, b5⟩, b6, b7, b8⟩, z5, z6⟩ := hZ
  refine ⟨⟨w1, ⟨?_, fun i hi => ⟨?_, ?_⟩⟩, ⟨⟨?_, ?_, ?_⟩, ⟨?_, ?_⟩, ?_, ?_, ?_⟩, ?_, ?_⟩, ?_⟩
  · rw [w2.I (by omega) (by unfold Wlc; omega), f1.I (by omega) (by omega)]; exact z2
  · rw [w2.I (by omega) (by unfold Wlc; omega), f1.I (by omega) (by omega)]; exact (z3 i hi).1
  · have hi : i ≤ zd Z := hi
    rw [w2.I (by omega) (by unfold Wlc; omega)]
    show chR s cd (va_up (zt Z) (zd Z) (cd c + 1) i) _
    unfold va_up
    by_cases q : i = zd Z
    · rw [if_pos q, q]
      refine Or.inr ⟨c, hc, rfl, ?_⟩
      unfold hNT
      rw [mI_oth (Or.inl (by decide)), mI_self]
    · rw [if_neg q, f1.I (by omega) (by omega)]; exact (z3 i hi).2
  · rw [w2.I (by omega) (by unfold Wlc; omega)]
    unfold hNT
    rw [mI_oth (Or.inr (by decide)), mI_oth (Or.inl (by decide)), mI_oth (Or.inr (by decide)), mI_self]
    show nI _ = nI (mlS e0 - (zs Z + 1))
    rw [Nat.sub_sub]
  · rw [w2.I (by omega) (by unfold Wlc; omega), f1.I (by omega) (by omega)]; exact b2
  · rw [w2.I (by omega) (by unfold Wlc; omega)]
    unfold hNT
    rw [mI_self]
    rfl
  · rw [w2.I (by omega) (by unfold Wlc; omega), f1.I (by omega) (by omega)]; exact b4
  · rw [w2.I (by omega) (by unfold Wlc; omega)]
    unfold hNT
    rw [mI_oth (Or.inr (by decide)), mI_oth (Or.inl (by decide)), mI_self]
    rfl
  · rw [w2.I (by omega) (by unfold Wlc; omega), f1.I (by omega) (by omega)]; exact b6
  · rw [w2.I (by omega) (by unfold Wlc; omega), f1.I (by omega) (by omega)]; exact b7
  · rw [w2.I (by omega) (by unfold Wlc; omega), f1.I (by omega) (by omega)]; exact b8
  · exact FlC1_lo hs1 w2 (by intro a k; unfold Wlc; omega) (FlC1_lo hs f1 (by omega) z5)
  · show ze Z + 1 = e0 + (zs Z + 1)
    omega
  · exact (f1.mono (by intro a k; unfold WSr; omega)).tr (w2.mono Wlc_Sr)
theorem ZC_pu {K : SK} {F : SF} {f n s : Nat} {cd : Nat → Nat} {e0 : Nat} {y : Bool} {a : Nat} {Y : OW} {A B C D : Nat} {Z : ZS} {h : mj_H} (hs : HT h) (hZ : ZC K F f n s cd e0 y a Y A B C D Z h) (b : Nat) (v : Int32) : ZC K F f n s cd e0 y a Y A B C D (puZ Z b) (wI (wI (wI h 18 4 v) 19 (zd Z + 1) (nI b)) 20 (zd Z + 1) (-1)) ∧ Fr (WSr C) h (wI (wI (wI h 18 4 v) 19 (zd Z + 1) (nI b)) 20 (zd Z + 1) (-1)) := by
  have hn := HT_n hs
  have f1 : Fr (fun a k => (a = 18 ∧ k = 4) ∨ ((a = 19 ∨ a = 20) ∧ k = zd Z + 1)) h (wI (wI (wI h 18 4 v) 19 (zd Z + 1) (nI b)) 20 (zd Z + 1) (-1)) := ((Fr.rf.sI (Or.inl ⟨rfl, rfl⟩)).sI (Or.inr ⟨Or.inl rfl, rfl⟩)).sI (Or.inr ⟨Or.inr rfl, rfl⟩)
  obtain ⟨z1, ⟨z2, z3⟩, ⟨⟨b1, b2, b3⟩, ⟨b4, b5⟩, b6, b7, b8⟩, z5, z6⟩ := hZ
  refine ⟨⟨BS_fr hs f1 (by omega) z1, ⟨?_, fun i hi => ?_⟩, ⟨⟨?_, ?_, ?_⟩, ⟨?_, ?_⟩, ?_, ?_, ?_⟩, FlC1_lo hs f1 (by omega) z5, z6⟩, f1.mono (by intro a k; unfold WSr; omega)⟩
  · rw [f1.I (by omega) (by omega)]; exact z2
  · have hi : i ≤ zd Z + 1 := hi
    show _ = nI (va_up (zp Z) (zd Z + 1) b i) ∧ chR s cd (va_up (zt Z) (zd Z + 1) 0 i) _
    unfold va_up
    by_cases q : i = zd Z + 1
    · rw [if_pos q, if_pos q, q, mI_self, mI_oth (Or.inl (by decide)), mI_self]
      exact ⟨rfl, Or.inl ⟨rfl, rfl⟩⟩
    · rw [if_neg q, if_neg q, f1.I (by omega) (by omega), f1.I (by omega) (by omega)]
      exact z3 i (by omega)
  · rw [f1.I (by omega) (by omega)]; exact b1
  · rw [f1.I (by omega) (by omega)]; exact b2
  · rw [f1.I (by omega) (by omega)]; exact b3
  · rw [f1.I (by omega) (by omega)]; exact b4
  · rw [f1.I (by omega) (by omega)]; exact b5
  · rw [f1.I (by omega) (by omega)]; exact b6
  · rw [f1.I (by omega) (by omega)]; exact b7
  · rw [f1.I (by omega) (by omega)]; exact b8
theorem ZC_li {K : SK} {F : SF} {f n s : Nat} {cd : Nat → Nat} {e0 : Nat} {y : Bool} {a : Nat} {Y : OW} {A B C D : Nat} {Z : ZS} {h h2 : mj_H} (hs : HT h) (hZ : ZC K F f n s cd e0 y a Y A B C D Z h) {e : Nat} (he : e ≤ zd Z) {v : Int32} (w1 : BS K F f s cd (zL (liZ K Z e)) (zl (liZ K Z e)) h2) (w2 : Fr Wlc (wI h 18 4 v) h2) : ZC K F f n s cd e0 y a Y A B C D (liZ K Z e) (wI h2 18 7 (nI (zc (liZ K Z e)))) ∧ Fr (WSr C) h (wI h2 18 7 (nI (zc (liZ K Z e)))) := by
  have hn := HT_n hs
  have hm : mN (wI h 18 4 v) = mN h := rfl
  have hs1 : HT (wI h 18 4 v) := hs
  have hs2 : HT h2 := w2.ht hs1 Wlc_st
  have f1 : Fr (fun a k => a = 18 ∧ k = 4) h (wI h 18 4 v) := Fr.rf.sI ⟨rfl, rfl⟩
  have f2 : Fr (fun a k => a = 18 ∧ k = 7) h2 (wI h2 18 7 (nI (zc (liZ K Z e)))) := Fr.rf.sI ⟨rfl, rfl⟩
  have g : ∀ a k, a < 37 → ¬ Wlc a k → ¬ (a = 18 ∧ (k = 4 ∨ k = 7)) → mI (wI h2 18 7 (nI (zc (liZ K Z e)))) a k = mI h a k := fun a k h1 h3 h4 => by
    have := w2.le
    rw [f2.I (by omega) (by omega), w2.I (by omega) h3, f1.I (by omega) (by omega)]
  obtain ⟨z1, ⟨z2, z3⟩, ⟨⟨b1, b2, b3⟩, ⟨b4, b5⟩, b6, b7, b8⟩, z5, z6⟩ := hZ
  refine ⟨⟨BS_fr hs2 f2 (by omega) w1, ⟨?_, fun i hi => ?_⟩, ⟨⟨?_, ?_, mI_self _ _ _ _⟩, ⟨?_, ?_⟩, ?_, ?_, ?_⟩, FlC1_lo hs2 f2 (by omega) (FlC1_lo hs1 w2 (by intro a k; unfold Wlc; omega) (FlC1_lo hs f1 (by omega) z5)), z6⟩, ((f1.mono (by intro a k; unfold WSr; omega)).tr (w2.mono Wlc_Sr)).tr (f2.mono (by intro a k; unfold WSr; omega))⟩
  · rw [g _ _ (by omega) (by unfold Wlc; omega) (by omega)]; exact z2
  · have hi : i ≤ e := hi
    rw [g _ _ (by omega) (by unfold Wlc; omega) (by omega), g _ _ (by omega) (by unfold Wlc; omega) (by omega)]
    exact z3 i (by omega)
  · rw [g _ _ (by omega) (by unfold Wlc; omega) (by omega)]; exact b1
  · rw [g _ _ (by omega) (by unfold Wlc; omega) (by omega)]; exact b2
  · rw [g _ _ (by omega) (by unfold Wlc; omega) (by omega)]; exact b4
  · rw [g _ _ (by omega) (by unfold Wlc; omega) (by omega)]; exact b5
  · rw [g _ _ (by omega) (by unfold Wlc; omega) (by omega)]; exact b6
  · rw [g _ _ (by omega) (by unfold Wlc; omega) (by omega)]; exact b7
  · rw [g _ _ (by omega) (by unfold Wlc; omega) (by omega)]; exact b8
theorem ZC_fi {K : SK} {F : SF} {f n s : Nat} {cd : Nat → Nat} {e0 : Nat} {y : Bool} {a : Nat} {Y : OW} {A B C D : Nat} {Z : ZS} {h h2 : mj_H} (hs : HT h) (hZ : ZC K F f n s cd e0 y a Y A B C D Z h) (w1 : FlC1 (setF F f (shL F f (zL Z)) e0) Y h2 f A B C D) (w2 : Fr (fun x _ => x = C) (wI (wI h 18 10 (nI (zf Z + 1))) 18 11 (nI (zc Z))) h2) : ZC K F f n s cd e0 y a Y A B C D (fiZ F f Z) h2 ∧ Fr (WSr C) h h2 := by
  have hn := HT_n hs
  have hC := hZ.2.2.2.1.1.2.2.1.1
  have hm : mN (wI (wI h 18 10 (nI (zf Z + 1))) 18 11 (nI (zc Z))) = mN h := rfl
  have hs1 : HT (wI (wI h 18 10 (nI (zf Z + 1))) 18 11 (nI (zc Z))) := hs
  have f1 : Fr (fun a k => a = 18 ∧ (k = 10 ∨ k = 11)) h (wI (wI h 18 10 (nI (zf Z + 1))) 18 11 (nI (zc Z))) := (Fr.rf.sI ⟨rfl, Or.inl rfl⟩).sI ⟨rfl, Or.inr rfl⟩
  have g : ∀ a k, a < 37 → ¬ (a = 18 ∧ (k = 10 ∨ k = 11)) → mI h2 a k = mI h a k := fun a k h1 h3 => by
    rw [w2.I (by omega) (by omega), f1.I (by omega) h3]
  obtain ⟨z1, ⟨z2, z3⟩, ⟨⟨b1, b2, b3⟩, ⟨b4, b5⟩, b6, b7, b8⟩, z5, z6⟩ := hZ
  refine ⟨⟨BS_fr hs1 w2 (by omega) (BS_fr hs f1 (by omega) z1), ⟨?_, fun i hi => ?_⟩, ⟨⟨?_, ?_, ?_⟩, ⟨?_, ?_⟩, ?_, ?_, ?_⟩, w1, z6⟩, (f1.mono (by intro a k; unfold WSr; omega)).tr (w2.mono (by intro a k; unfold WSr; omega))⟩
  · rw [g _ _ (by omega) (by omega)]; exact z2
  · rw [g _ _ (by omega) (by omega), g _ _ (by omega) (by omega)]; exact z3 i hi
  · rw [g _ _ (by omega) (by omega)]; exact b1
  · rw [g _ _ (by omega) (by omega)]; exact b2
  · rw [g _ _ (by omega) (by omega)]; exact b3
  · rw [g _ _ (by omega) (by omega)]; exact b4
  · rw [g _ _ (by omega) (by omega)]; exact b5
  · rw [w2.I (by omega) (by omega), mI_oth (Or.inr (by decide)), mI_self]; rfl
  · rw [w2.I (by omega) (by omega), mI_self]; rfl
  · rw [g _ _ (by omega) (by omega)]; exact b8
theorem se_openAgain_s {S : mj_S} {h : mj_H} (hs : HT h) {K : SK} (hK : KC K h) (hO : KO K) {F : SF} (hFO : FO K.1 F) {f : Nat} (hf : f < F.1) {n s : Nat} {cd : Nat → Nat} {e0 : Nat} {y : Bool} {a : Nat} {Y : OW} {A B C D : Nat} {Z : ZS} (hZ : ZC K F f n s cd e0 y a Y A B C D Z h) {e : Nat} (he : e ≤ zd Z) (hI : zI K F f n (e + 1) Z) (hn64 : n ≤ 64) : Cl S se_openAgain [.ref 18, .int (nI (e))] h (fun r h' => r = none ∧ ZC K F f n s cd e0 y a Y A B C D (liZ K Z e) h' ∧ mI h' 18 4 = nI e ∧ Fr (WSr C) h h') := by
  show Ex S se_openAgain 0 [some (.ref 18), some (.int (nI (e)))] [] h _
  have hn4 := HT_n hs
  obtain ⟨z1, z2, z3, z4, z5⟩ := zO_li hI
  have hen : e < 64 := by have := hI.1.1; omega
  have hK1 : KC K (wI h 18 4 (nI e)) := KC_fr hs (W := fun a k => a = 18) (Fr.rf.sI rfl) (by intro a k; unfold WKC; omega) hK
  have hZ1 : BS K F f s cd (zL Z) (zl Z) (wI h 18 4 (nI e)) := BS_fr hs (W := fun a k => a = 18) (Fr.rf.sI rfl) (by omega) hZ.1
  obtain ⟨c, hc, hct, hcv⟩ : ∃ c, c < s ∧ cd c + 1 = zt Z e ∧ mI h 20 e = nI c := by
    rcases (hZ.2.1.2 e he).2 with w | w
    · exfalso; omega
    · exact w
  have hq : qZ Z e = cd c / 8 := by unfold qZ; rw [← hct]; rfl
  rw [hq] at z2
  refine Ex_iload_n d_se_openAgain_0 rfl ?_
  refine Ex_if_ltN (e) 53 d_se_openAgain_1 rfl rfl (by omega) (fun hc1 => ?_) (fun hc1 => ?_)
  · exfalso; omega
  · refine Ex_iload_n d_se_openAgain_4 rfl ?_
    refine Ex_bipush d_se_openAgain_5 bp_64 ?_
    refine Ex_icmp_geN (e) (64) 53 d_se_openAgain_7 rfl rfl rfl (by omega) (by omega) (fun hc7 => ?_) (fun hc7 => ?_)
    · exfalso; omega
    · refine Ex_aload_n d_se_openAgain_10 rfl ?_
      refine Ex_iload_n d_se_openAgain_11 rfl ?_
      refine Ex_putI d_se_openAgain_12 pf_se_37 (Or.inl rfl) (t_18 hs) (Or.inl rfl) ?_
      refine Ex_aload_n d_se_openAgain_15 rfl ?_
      refine Ex_getR (v := .ref 7) d_se_openAgain_16 pf_se_20 rfl (t_18 hs) (r_18_0 hs) ?_
      refine Ex_aload_n d_se_openAgain_19 rfl ?_
      refine Ex_getR (v := .ref 19) d_se_openAgain_20 pf_se_11 rfl (t_18 hs) (r_18_2 hs) ?_
      refine Ex_iload_n d_se_openAgain_23 rfl ?_
      refine Ex_ialoadN (a := e) (y := (nI (zp Z e))) d_se_openAgain_24 (t_19 hs) rfl (by omega) (by decide) (by rw [mI_oth (Or.inl (by decide))]; exact (hZ.2.1.2 e he).1) ?_
      refine Ex_aload_n d_se_openAgain_25 rfl ?_
      refine Ex_getR (v := .ref 20) d_se_openAgain_26 pf_se_17 rfl (t_18 hs) (r_18_3 hs) ?_
      refine Ex_iload_n d_se_openAgain_29 rfl ?_
      refine Ex_ialoadN (a := e) (y := (nI (c))) d_se_openAgain_30 (t_20 hs) rfl (by omega) (by decide) (by rw [mI_oth (Or.inl (by decide))]; exact hcv) ?_
      refine Ex_cV2 d_se_openAgain_31 pk_se_openAgain_124 (t_7 hs) (bo_lift_s (show HT (wI h 18 4 (nI e)) from hs) hK1 hO hFO hf (LyI_ok hI.1) (LyI_fS hI.1) hZ1 (k := zp Z e) z5.1 z5.2 hc) ?_
      rintro rv h2 ⟨rfl, w1, w2⟩
      have hs2 : HT h2 := w2.ht (show HT (wI h 18 4 (nI e)) from hs) Wlc_st
      have hK2 : KC K h2 := KC_B (show HT (wI h 18 4 (nI e)) from hs) (w2.mono Wlc_B) hK1
      show Ex S se_openAgain 34 [some (.ref 18), some (.int (nI (e)))] [] h2 _
      refine Ex_aload_n d_se_openAgain_34 rfl ?_
      refine Ex_dup rfl d_se_openAgain_35 ?_
      refine Ex_getIE (y := (nI (zc Z))) d_se_openAgain_36 pf_se_58 rfl (t_18 hs2) (by rw [w2.I (by show 18 < mN h; omega) (by unfold Wlc; omega), mI_oth (Or.inr (by decide))]; exact hZ.2.2.1.1.2.2) ?_
      refine Ex_aload_n d_se_openAgain_39 rfl ?_
      refine Ex_aload_n d_se_openAgain_40 rfl ?_
      refine Ex_getR (v := .ref 20) d_se_openAgain_41 pf_se_17 rfl (t_18 hs2) (r_18_3 hs2) ?_
      refine Ex_iload_n d_se_openAgain_44 rfl ?_
      refine Ex_ialoadN (a := e) (y := (nI (c))) d_se_openAgain_45 (t_20 hs2) rfl (by omega) (by decide) (by rw [w2.I (by show 20 < mN h; omega) (by unfold Wlc; omega), mI_oth (Or.inl (by decide))]; exact hcv) ?_
      refine Ex_pV1 (v := .int (nI (kC K (cd c / 8)))) d_se_openAgain_46 pk_se_openAgain_127 (t_18 hs2) (se_costOf_s hs2 hK2 hO w1.1.1.1 hc) ?_
      refine Ex_isubN (zc Z) (kC K (cd c / 8)) d_se_openAgain_49 rfl rfl (by omega) ?_
      refine Ex_putI d_se_openAgain_50 pf_se_58 (Or.inl rfl) (t_18 hs2) (Or.inl rfl) ?_
      refine Ex_return d_se_openAgain_53 rfl ?_
      have w3 : BS K F f s cd (zL (liZ K Z e)) (zl (liZ K Z e)) h2 := by
        show BS K F f s cd (lyS (zL Z) (zp Z e) none) (leS (zl Z) (qZ Z e) (zl Z (qZ Z e) + 1)) h2
        rw [hq]
        exact w1
      have w4 := ZC_li hs hZ he w3 w2
      rw [show zc (liZ K Z e) = zc Z - kC K (cd c / 8) by show zc Z - kC K (qZ Z e) = _; rw [hq]] at w4
      exact ⟨rfl, w4.1, by rw [mI_oth (Or.inr (by decide)), w2.I (by show 18 < mN h; omega) (by unfold Wlc; omega), mI_self], w4.2⟩
theorem se_noteFill_s {S : mj_S} {h : mj_H} (hs : HT h) {K : SK} (hK : KC K h) (hO : KO K) {F : SF} (hFO : FO K.1 F) {f : Nat} (hf : f < F.1) {n s : Nat} {cd : Nat → Nat} {e0 : Nat} {y : Bool} {a : Nat} {Y : OW} {A B C D : Nat} {Z : ZS} (hZ : ZC K F f n s cd e0 y a Y A B C D Z h) {m : Nat} (hI : zI K F f n m Z) : Cl S se_noteFill [.ref 18, .ref (A)] h (fun r h' => r = none ∧ ZC K F f n s cd e0 y a Y A B C D (fiZ F f Z) h' ∧ mI h' 18 4 = mI h 18 4 ∧ Fr (WSr C) h h') := by
  show Ex S se_noteFill 0 [some (.ref 18), some (.ref (A))] [] h _
  have hn4 := HT_n hs
  have hC := hZ.2.2.2.1.1.2.2.1.1
  have f1 : Fr (fun a k => a = 18) h (wI (wI h 18 10 (nI (zf Z + 1))) 18 11 (nI (zc Z))) := (Fr.rf.sI (W := fun a k => a = 18) rfl).sI (W := fun a k => a = 18) rfl
  have hB2 : BcC F f (zL Z) (wI (wI h 18 10 (nI (zf Z + 1))) 18 11 (nI (zc Z))) := BcC_fr hs f1 (by omega) (by omega) hZ.1.1.2.1
  have hx2 : FlC1 (setF F f (zG Z) e0) Y (wI (wI h 18 10 (nI (zf Z + 1))) 18 11 (nI (zc Z))) f A B C D := FlC1_lo hs f1 (by omega) hZ.2.2.2.1
  have hzb := hI.2.1
  have hze := hZ.2.2.2.2
  have he0 : e0 ≤ 600000 := by omega
  refine Ex_aload_n d_se_noteFill_0 rfl ?_
  refine Ex_dup rfl d_se_noteFill_1 ?_
  refine Ex_getIE (y := (nI (zf Z))) d_se_noteFill_2 pf_se_68 rfl (t_18 hs) hZ.2.2.1.2.2.1 ?_
  refine Ex_iconst d_se_noteFill_5 ic_1 ?_
  refine Ex_iaddN (zf Z) (1) d_se_noteFill_6 rfl rfl ?_
  refine Ex_putI d_se_noteFill_7 pf_se_68 (Or.inl rfl) (t_18 hs) (Or.inl rfl) ?_
  refine Ex_aload_n d_se_noteFill_10 rfl ?_
  refine Ex_aload_n d_se_noteFill_11 rfl ?_
  refine Ex_getIE (y := (nI (zc Z))) d_se_noteFill_12 pf_se_58 rfl (t_18 hs) (by rw [mI_oth (Or.inr (by decide))]; exact hZ.2.2.1.1.2.2) ?_
  refine Ex_putI d_se_noteFill_15 pf_se_71 (Or.inl rfl) (t_18 hs) (Or.inl rfl) ?_
  refine Ex_aload_n d_se_noteFill_18 rfl ?_
  refine Ex_getR (v := .ref 7) d_se_noteFill_19 pf_se_20 rfl (t_18 hs) (r_18_0 hs) ?_
  refine Ex_aload_n d_se_noteFill_22 rfl ?_
  refine Ex_cV1 d_se_noteFill_23 pk_se_noteFill_147 (t_7 hs) (bo_showOn_s (h := (wI (wI h 18 10 (nI (zf Z + 1))) 18 11 (nI (zc Z)))) (n := K.1) hs hO.1 hFO hf (LyI_ok hI.1) hI.2.2 (x := e0) he0 hB2 hx2) ?_
  rintro rv h2 ⟨rfl, w1, w2⟩
  show Ex S se_noteFill 26 [some (.ref 18), some (.ref (A))] [] h2 _
  refine Ex_return d_se_noteFill_26 rfl ?_
  have w3 := ZC_fi hs hZ w1 w2
  exact ⟨rfl, w3.1, by rw [w2.I (by show 18 < mN h; omega) (by omega), mI_oth (Or.inr (by decide)), mI_oth (Or.inr (by decide))], w3.2⟩
