/-! The class: a run of THE SEARCH. -/
theorem se_explore_s {S : mj_S} {h2 : mj_H} (hs : HT h2) {K : SK} (hK : KC K h2) (hO : KO K) {F : SF} {Y : OW} (hFO : FO K.1 F) (hFZ : FZ F) {f A B C D : Nat} (hf : f < F.1) (hx : FlC1 (setF F f nL0 (fE F)) Y h2 f A B C D) {w : Nat} (hw : 1 ≤ w ∧ w < 2147483648) {y : Bool} {s : Nat} {cd : Nat → Nat} (hB : BS K F f s cd nL0 (fS F f) h2) (h71 : mI h2 7 1 = nI (nOp F f)) (hZF : ZF (fE F) y ((lcS K (fS F f) K.1).getD 0) (Zi F f 0) h2) : Cl S se_explore [.ref 18, .ref (A), .int (nI (w))] h2 (fun r h' => r = none ∧ sX F f (fE F) Y A B C D (ocS K F f w y) h2 h') := by
  show Ex S se_explore 0 [some (.ref 18), some (.ref (A)), some (.int (nI (w))), none, none] [] h2 _
  have hn4 := HT_n hs
  have hC := hx.1.2.2.1.1
  obtain ⟨⟨b1, b2, b3⟩, ⟨b4, b5⟩, b6, b7, b8⟩ := hZF
  obtain ⟨n, o, hE⟩ := enx (opF F f) 64
  have hnp := EnO_nOp hE
  have hn64 := EnO_le hE
  rw [hnp] at h71
  have hle : (lcS K (fS F f) K.1).getD 0 ≤ 1000 := by
    have z := lcS_le hO (fS F f) K.1 (Nat.le_refl _)
    generalize lcS K (fS F f) K.1 = r at z
    rcases r with _ | v
    · exact Nat.zero_le _
    · exact z v rfl
  refine Ex_aload_n d_se_explore_0 rfl ?_
  refine Ex_getR (v := .ref 7) d_se_explore_1 pf_se_20 rfl (t_18 hs) (r_18_0 hs) ?_
  refine Ex_pV0 (v := .int (bI (gdS K F f 64))) d_se_explore_4 pk_se_explore_92 (t_7 hs) (bo_givenOnesFit_s hs hK hO hFO hf hB hFZ) ?_
  refine Ex_if_neB (gdS K F f 64) 11 d_se_explore_7 rfl rfl (fun hc7 => ?_) (fun hc7 => ?_)
  · refine Ex_aload_n d_se_explore_11 rfl ?_
    refine Ex_getR (v := .ref 7) d_se_explore_12 pf_se_20 rfl (t_18 hs) (r_18_0 hs) ?_
    refine Ex_getIE (y := (nI (n))) d_se_explore_15 pf_se_96 rfl (t_7 hs) h71 ?_
    refine Ex_if_neN (n) 27 d_se_explore_18 rfl rfl (by omega) (fun hc18 => ?_) (fun hc18 => ?_)
    · rcases np_or (zI_0 (f := f) (n := n) (b := 0) hFO) hE with ⟨hm, b, hb1, hb2, hb3⟩ | ⟨hm, hb1⟩
      rotate_left
      · exfalso; omega
      refine Ex_mono (se_explore_R hs hK hO hFO hf hE hw hle hx hB h71 ⟨⟨b1, b2, b3⟩, ⟨b4, b5⟩, b6, b7, b8⟩ hb1 hb2 hm) ?_
      rintro rv h3 ⟨rfl, w1⟩
      rw [oc_t hc7]
      have hsr : srS K F f w y = rnS K F f n w y (lcA K F f y) 60002 (Zi F f b) := by
        unfold srS
        rw [show npS K F f (fun _ => none) (fS F f) = some b from hb1, hnp]
      rw [hsr, ← rn_lc]
      exact ⟨rfl, w1⟩
    · refine Ex_aload_n d_se_explore_21 rfl ?_
      refine Ex_aload_n d_se_explore_22 rfl ?_
      refine Ex_cV1 d_se_explore_23 pk_se_explore_99 (t_18 hs) (se_noteFill_p hs hO.1 hFO hf (okLy_0 _) (okLy_0 _) hFO.2.1 hB.1.2.1 hx (z := 0) (c0 := 0) b6 b3) ?_
      rintro rv h3 ⟨rfl, w1, w2⟩
      show Ex S se_explore 26 [some (.ref 18), some (.ref (A)), some (.int (nI (w))), none, none] [] h3 _
      refine Ex_return d_se_explore_26 rfl ?_
      rcases np_or (zI_0 (f := f) (n := n) (b := 0) hFO) hE with ⟨hm, b, hb1, hb2, hb3⟩ | ⟨hm, hb1⟩
      · exfalso; omega
      rw [oc_t hc7]
      have hsr : srS K F f w y = (fiZ F f (Zi F f 0), false) := by unfold srS; rw [show npS K F f (fun _ => none) (fS F f) = none from hb1]
      rw [hsr]
      have f1 : Fr (fun a k => a = 18 ∧ (k = 10 ∨ k = 11)) h2 (wI (wI h2 18 10 (nI (0 + 1))) 18 11 (nI 0)) := (Fr.rf.sI ⟨rfl, Or.inl rfl⟩).sI ⟨rfl, Or.inr rfl⟩
      have hmF : mN (wI (wI h2 18 10 (nI (0 + 1))) 18 11 (nI 0)) = mN h2 := rfl
      refine ⟨rfl, (f1.mono (by intro a k; unfold WSr; omega)).tr (w2.mono (by intro a k; unfold WSr; omega)), ⟨?_, ?_, ?_, ?_⟩, ?_⟩
      · rw [w2.I (by omega) (by omega), mI_oth (Or.inr (by decide)), mI_self]; rfl
      · rw [w2.I (by omega) (by omega), mI_self]; rfl
      · rw [w2.I (by omega) (by omega), f1.I (by omega) (by omega)]; exact b5
      · rw [w2.I (by omega) (by omega), f1.I (by omega) (by omega)]; exact b8
      · exact w1
  · refine Ex_return d_se_explore_10 rfl ?_
    rw [oc_f hc7]
    exact ⟨rfl, Fr.rf, ⟨b6, b7, b5, b8⟩, hx⟩
theorem se_begin_s {S : mj_S} {h : mj_H} (hs : HT h) {K : SK} (hK : KC K h) (hO : KO K) {F : SF} {Y : OW} (hFO : FO K.1 F) {f A B C D : Nat} (hf : f < F.1) (hx : FlC1 F Y h f A B C D) (h189 : mI h 18 9 = nI (fE F)) {y : Bool} : Cl S se_begin [.ref 18, .ref (A), .int (bI (y))] h (fun r h' => r = none ∧ ∃ s cd, Fr (WSr C) h h' ∧ FlC1 (setF F f nL0 (fE F)) Y h' f A B C D ∧ BS K F f s cd nL0 (fS F f) h' ∧ mI h' 7 1 = nI (nOp F f) ∧ ZF (fE F) y ((lcS K (fS F f) K.1).getD 0) (Zi F f 0) h') := by
  show Ex S se_begin 0 [some (.ref 18), some (.ref (A)), some (.int (bI (y)))] [] h _
  have hn4 := HT_n hs
  have hC := hx.1.2.2.1.1
  have he6 := hFO.2.1
  have hFO1 : FO K.1 (setF F f nL0 (fE F)) := setF_ok hFO (okLy_0 _) hFO.2.1
  refine Ex_aload_n d_se_begin_0 rfl ?_
  refine Ex_cV0 d_se_begin_1 pk_se_begin_28 hx.2.1.2.1 (fl_showNothing_s hFO hf hx) ?_
  rintro rv hh ⟨rfl, rfl⟩
  have f1 : Fr (fun x _ => x = C) h (wA h C (flF (mI h C) (-1) 64)) := Fr_sn
  have hx1 : FlC1 (setF F f nL0 (fE F)) Y (wA h C (flF (mI h C) (-1) 64)) f A B C D := FlC1_sn hx _
  have hs1 : HT (wA h C (flF (mI h C) (-1) 64)) := hs
  have hK1 : KC K (wA h C (flF (mI h C) (-1) 64)) := KC_fr hs f1 (by intro a k; unfold WKC; omega) hK
  show Ex S se_begin 4 [some (.ref 18), some (.ref (A)), some (.int (bI (y)))] [] (wA h C (flF (mI h C) (-1) 64)) _
  refine Ex_aload_n d_se_begin_4 rfl ?_
  refine Ex_getR (v := .ref 7) d_se_begin_5 pf_se_20 rfl (t_18 hs1) (r_18_0 hs1) ?_
  refine Ex_aload_n d_se_begin_8 rfl ?_
  refine Ex_cV1 d_se_begin_9 pk_se_begin_31 (t_7 hs1) (bo_begin_s hs1 hK1 hO hFO1 hf hx1) ?_
  rintro rv h2 ⟨rfl, ⟨s, cd, hB⟩, h71, frb⟩
  have hs2 := frb.ht hs1 WBo_st
  have hn2 := HT_n hs2
  have hK2 := KC_B hs1 frb hK1
  have hx2 := FlC1_B hs1 frb hx1
  have hB : BS K F f s cd nL0 (fS F f) h2 := hB
  have h71 : mI h2 7 1 = nI (nOp F f) := h71
  have f7 : Fr (fun a k => a = 18 ∧ (k = 4 ∨ k = 5 ∨ k = 6 ∨ k = 7)) h2 (wI (wI (wI (wI h2 18 4 (0 : Int32)) 18 5 (nI (mlS (fE F)))) 18 6 (bI y)) 18 7 (0 : Int32)) := ((((Fr.rf.sI ⟨rfl, Or.inl rfl⟩).sI ⟨rfl, Or.inr (Or.inl rfl)⟩).sI ⟨rfl, Or.inr (Or.inr (Or.inl rfl))⟩).sI ⟨rfl, Or.inr (Or.inr (Or.inr rfl))⟩)
  show Ex S se_begin 12 [some (.ref 18), some (.ref (A)), some (.int (bI (y)))] [] h2 _
  refine Ex_aload_n d_se_begin_12 rfl ?_
  refine Ex_iconst d_se_begin_13 ic_0 ?_
  refine Ex_putI d_se_begin_14 pf_se_37 (Or.inl rfl) (t_18 hs2) (Or.inl rfl) ?_
  refine Ex_aload_n d_se_begin_17 rfl ?_
  refine Ex_sipush d_se_begin_18 sp_30000 ?_
  refine Ex_ldc pi_se_41 d_se_begin_21 ?_
  refine Ex_aload_n d_se_begin_23 rfl ?_
  refine Ex_getIE (y := (nI (fE F))) d_se_begin_24 pf_se_42 rfl (t_18 hs2) (by rw [mI_oth (Or.inr (by decide)), frb.I (by show 18 < mN h; omega) (by unfold WBo; omega), f1.I (by omega) (by omega)]; exact h189) ?_
  refine Ex_isubN (600000) (fE F) d_se_begin_27 rfl rfl (by omega) ?_
  refine Ex_pS2 (v := .int (nI (mlS (fE F)))) d_se_begin_28 pk_se_begin_45 (jd_min_s (a := 30000) (b := 600000 - fE F) (by decide) (by omega)) ?_
  refine Ex_putI d_se_begin_31 pf_se_51 (Or.inl rfl) (t_18 hs2) (Or.inl rfl) ?_
  refine Ex_aload_n d_se_begin_34 rfl ?_
  refine Ex_iload_n d_se_begin_35 rfl ?_
  refine Ex_putI d_se_begin_36 pf_se_54 (Or.inl rfl) (t_18 hs2) (Or.inr ⟨rfl, (bI_01 _)⟩) ?_
  refine Ex_aload_n d_se_begin_39 rfl ?_
  refine Ex_iconst d_se_begin_40 ic_0 ?_
  refine Ex_putI d_se_begin_41 pf_se_58 (Or.inl rfl) (t_18 hs2) (Or.inl rfl) ?_
  refine Ex_aload_n d_se_begin_44 rfl ?_
  refine Ex_aload_n d_se_begin_45 rfl ?_
  refine Ex_aload_n d_se_begin_46 rfl ?_
  refine Ex_pV1 (v := .int (nI ((lcS K (fS F f) K.1).getD 0))) d_se_begin_47 pk_se_begin_61 (t_18 hs2) (se_leastCostOn_s (h := (wI (wI (wI (wI h2 18 4 (0 : Int32)) 18 5 (nI (mlS (fE F)))) 18 6 (bI y)) 18 7 (0 : Int32))) hs2 (KC_fr hs2 f7 (by intro a k; unfold WKC; omega) hK2) hO hFO1 hf (FlC1_lo hs2 f7 (by omega) hx2)) ?_
  refine Ex_putI d_se_begin_50 pf_se_65 (Or.inl rfl) (t_18 hs2) (Or.inl rfl) ?_
  refine Ex_aload_n d_se_begin_53 rfl ?_
  refine Ex_iconst d_se_begin_54 ic_0 ?_
  refine Ex_putI d_se_begin_55 pf_se_68 (Or.inl rfl) (t_18 hs2) (Or.inl rfl) ?_
  refine Ex_aload_n d_se_begin_58 rfl ?_
  refine Ex_iconst d_se_begin_59 ic_0 ?_
  refine Ex_putI d_se_begin_60 pf_se_71 (Or.inl rfl) (t_18 hs2) (Or.inl rfl) ?_
  refine Ex_aload_n d_se_begin_63 rfl ?_
  refine Ex_iconst d_se_begin_64 ic_1 ?_
  refine Ex_putI d_se_begin_65 pf_se_74 (Or.inl rfl) (t_18 hs2) (Or.inr ⟨rfl, (by decide)⟩) ?_
  refine Ex_return d_se_begin_68 rfl ?_
  have f9 : Fr (fun a k => a = 18 ∧ 4 ≤ k ∧ k ≤ 12 ∧ k ≠ 9) h2 (wI (wI (wI (wI (wI (wI (wI (wI h2 18 4 (0 : Int32)) 18 5 (nI (mlS (fE F)))) 18 6 (bI y)) 18 7 (0 : Int32)) 18 8 (nI ((lcS K (fS F f) K.1).getD 0))) 18 10 (0 : Int32)) 18 11 (0 : Int32)) 18 12 (1 : Int32)) := ((((f7.mono (by omega)).sI (by omega)).sI (by omega)).sI (by omega)).sI (by omega)
  have hs9 : HT (wI (wI (wI (wI (wI (wI (wI (wI h2 18 4 (0 : Int32)) 18 5 (nI (mlS (fE F)))) 18 6 (bI y)) 18 7 (0 : Int32)) 18 8 (nI ((lcS K (fS F f) K.1).getD 0))) 18 10 (0 : Int32)) 18 11 (0 : Int32)) 18 12 (1 : Int32)) := hs2
  have hK9 : KC K (wI (wI (wI (wI (wI (wI (wI (wI h2 18 4 (0 : Int32)) 18 5 (nI (mlS (fE F)))) 18 6 (bI y)) 18 7 (0 : Int32)) 18 8 (nI ((lcS K (fS F f) K.1).getD 0))) 18 10 (0 : Int32)) 18 11 (0 : Int32)) 18 12 (1 : Int32)) := KC_fr hs2 f9 (by intro a k; unfold WKC; omega) hK2
  have hx9 := FlC1_lo hs2 f9 (by omega) hx2
  have hB9 := BS_fr hs2 f9 (by omega) hB
  have h719 : mI (wI (wI (wI (wI (wI (wI (wI (wI h2 18 4 (0 : Int32)) 18 5 (nI (mlS (fE F)))) 18 6 (bI y)) 18 7 (0 : Int32)) 18 8 (nI ((lcS K (fS F f) K.1).getD 0))) 18 10 (0 : Int32)) 18 11 (0 : Int32)) 18 12 (1 : Int32)) 7 1 = nI (nOp F f) := by rw [f9.I (by omega) (by omega)]; exact h71
  have hZF9 : ZF (fE F) y ((lcS K (fS F f) K.1).getD 0) (Zi F f 0) (wI (wI (wI (wI (wI (wI (wI (wI h2 18 4 (0 : Int32)) 18 5 (nI (mlS (fE F)))) 18 6 (bI y)) 18 7 (0 : Int32)) 18 8 (nI ((lcS K (fS F f) K.1).getD 0))) 18 10 (0 : Int32)) 18 11 (0 : Int32)) 18 12 (1 : Int32)) := by
    refine ⟨⟨?_, ?_, ?_⟩, ⟨?_, ?_⟩, ?_, ?_, ?_⟩
    · rw [mI_oth (Or.inr (by decide)), mI_oth (Or.inr (by decide)), mI_oth (Or.inr (by decide)), mI_oth (Or.inr (by decide)), mI_oth (Or.inr (by decide)), mI_oth (Or.inr (by decide)), mI_self]; rfl
    · rw [mI_oth (Or.inr (by decide)), mI_oth (Or.inr (by decide)), mI_oth (Or.inr (by decide)), mI_oth (Or.inr (by decide)), mI_oth (Or.inr (by decide)), mI_self]
    · rw [mI_oth (Or.inr (by decide)), mI_oth (Or.inr (by decide)), mI_oth (Or.inr (by decide)), mI_oth (Or.inr (by decide)), mI_self]; rfl
    · rw [mI_oth (Or.inr (by decide)), mI_oth (Or.inr (by decide)), mI_oth (Or.inr (by decide)), mI_self]
    · rw [f9.I (by omega) (by omega), frb.I (by show 18 < mN h; omega) (by unfold WBo; omega), f1.I (by omega) (by omega)]; exact h189
    · rw [mI_oth (Or.inr (by decide)), mI_oth (Or.inr (by decide)), mI_self]; rfl
    · rw [mI_oth (Or.inr (by decide)), mI_self]; rfl
    · exact mI_self _ _ _ _
  exact ⟨rfl, s, cd, ((f1.mono (by intro a k; unfold WSr; omega)).tr (frb.mono (by intro a k; unfold WSr; exact Or.inl))).tr (f9.mono (by intro a k; unfold WSr; omega)), hx9, hB9, h719, hZF9⟩
