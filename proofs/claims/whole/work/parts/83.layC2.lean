/-! The class: laying and lifting. -/
def BS (K : SK) (F : SF) (f s : Nat) (cd : Nat → Nat) (L : Nat → Pl) (l : Nat → Nat) (h : mj_H) : Prop := BX K F f s cd L l (wnS K F f L) h ∧ FgX K F f s cd L l (wnS K F f L) h
theorem okLy_s {n : Nat} {L : Nat → Pl} (hL : okLy n L) {k : Nat} {p : Pl} (hp : okP n p) : okLy n (lyS L k p) := by
  intro j
  unfold lyS va_up
  split
  · exact hp
  · exact hL j
theorem BS_tl {K : SK} {F : SF} {f s : Nat} {cd : Nat → Nat} (hR : fR F f ≤ 8) (hC : fC F f ≤ 8) {L : Nat → Pl} {l : Nat → Nat} {k : Nat} {p : Pl} (hk : inF F f k) {h : mj_H} (h1 : BX K F f s cd (lyS L k p) l (tlN K F f (lyS L k p) k (wnS K F f L) 4) h) (h2 : FgX K F f s cd (lyS L k p) l (tlN K F f (lyS L k p) k (wnS K F f L) 4) h) : BS K F f s cd (lyS L k p) l h := by
  refine ⟨⟨h1.1, h1.2.1, fun j hj hi e he => ?_, h1.2.2.2⟩, fun j hj hw => ?_⟩
  · rw [← tl_end hR hC hk hi he]; exact h1.2.2.1 j hj hi e he
  · rw [h2 j hj hw]
    have hi : inF F f j := by
      unfold wtB at hw
      rw [decide_eq_true_eq] at hw
      exact hw.1.1
    exact congrArg nI (cnB_e _ _ (fun c _ _ => gE_c 4 (fun _ => Iff.rfl) (fun e he => tl_end hR hC hk hi he)))
def W11 (a k : Nat) : Prop := a = 11
theorem BX_c {K : SK} {F : SF} {f s : Nat} {cd : Nat → Nat} {L : Nat → Pl} {l : Nat → Nat} {wn : Nat → Nat → Nat} {h : mj_H} (hs : HT h) (z : BX K F f s cd L l wn h) {k : Nat} (ho : opF F f k) (p : Pl) : BX K F f s cd (lyS L k p) l wn (wI h 11 k (cQ p)) := by
  have fr : Fr W11 h (wI h 11 k (cQ p)) := Fr.rf.sI rfl
  refine ⟨BT_fr hs fr (by unfold W11; omega) (by unfold W11; omega) (by unfold W11; omega) (by unfold W11; omega) z.1, fun j hj => ⟨?_, ?_⟩, WnC_fr hs fr (by unfold W11; omega) z.2.2.1, LfC_fr hs fr (by unfold W11; omega) z.2.2.2.1, LbC_fr hs fr (by unfold W11; omega) z.2.2.2.2⟩
  · unfold cdB lyS va_up
    by_cases q : j = k
    · rw [q, mI_self, ho.2, if_pos rfl]
    · rw [mI_oth (Or.inr q), if_neg q]; exact (z.2.1 j hj).1
  · rw [mI_oth (Or.inl (by decide))]; exact (z.2.1 j hj).2
theorem wt_lay {F : SF} {f : Nat} {L : Nat → Pl} {k j : Nat} {q : Nat × Nat} (h : wtB F f (lyS L k (some q)) j = true) : wtB F f L j = true := by
  unfold wtB at h ⊢
  rw [decide_eq_true_eq] at h ⊢
  refine ⟨h.1, ?_⟩
  have h2 := h.2
  unfold lyS va_up at h2
  split at h2
  · cases h2
  · exact h2
theorem wt_lift {F : SF} {f : Nat} {L : Nat → Pl} {k j : Nat} {p : Pl} (hj : j ≠ k) (h : wtB F f (lyS L k p) j = true) : wtB F f L j = true := by
  unfold wtB at h ⊢
  rw [decide_eq_true_eq] at h ⊢
  refine ⟨h.1, ?_⟩
  have h2 := h.2
  unfold lyS va_up at h2
  rw [if_neg hj] at h2
  exact h2
theorem FgX_fr {W : Nat → Nat → Prop} {K : SK} {F : SF} {f s : Nat} {cd : Nat → Nat} {L : Nat → Pl} {l : Nat → Nat} {wn : Nat → Nat → Nat} {h h1 : mj_H} (hs : HT h) (fr : Fr W h h1) (w1 : ∀ k, ¬ W 14 k) (z : FgX K F f s cd L l wn h) : FgX K F f s cd L l wn h1 := by
  have hn := HT_n hs
  intro k hk hw
  rw [fr.I (by omega) (w1 _)]
  exact z k hk hw
theorem FgX_l {K : SK} {F : SF} {f s : Nat} {cd : Nat → Nat} {L : Nat → Pl} {l l' : Nat → Nat} {wn : Nat → Nat → Nat} {h : mj_H} (hl : ∀ k, 0 < l k ↔ 0 < l' k) (z : FgX K F f s cd L l wn h) : FgX K F f s cd L l' wn h := by
  intro k hk hw
  rw [z k hk hw]
  exact congrArg nI (cnB_e _ _ (fun c _ _ => gE_c 4 hl (fun e he => rfl)))
theorem BX_l {K : SK} {F : SF} {f s : Nat} {cd : Nat → Nat} {L : Nat → Pl} {l l' : Nat → Nat} {wn : Nat → Nat → Nat} {h h1 : mj_H} (hs : HT h) (z : BX K F f s cd L l wn h) (fr : Fr W1516 h h1) (z1 : LfC l' h1) (z2 : LbC s cd l' h1) : BX K F f s cd L l' wn h1 :=
  ⟨BT_fr hs fr (by unfold W1516; omega) (by unfold W1516; omega) (by unfold W1516; omega) (by unfold W1516; omega) z.1, BcC_fr hs fr (by unfold W1516; omega) (by unfold W1516; omega) z.2.1, WnC_fr hs fr (by unfold W1516; omega) z.2.2.1, z1, z2⟩
def Wlc (a k : Nat) : Prop := a = 11 ∨ (13 ≤ a ∧ a ≤ 16)
theorem Wlc_st : ∀ q ∈ statR, ¬ Wlc q.1 q.2.1 := by
  have h2 : ∀ q ∈ statR, ¬ (q.1 = 11 ∨ (13 ≤ q.1 ∧ q.1 ≤ 16)) := by decide
  exact h2
theorem Wlc_B : ∀ a k, Wlc a k → WBo a k := by intro a k; unfold Wlc WBo; omega
theorem leS_i {l : Nat → Nat} {u v : Nat} (h : 0 < l u ↔ 0 < v) : ∀ k, 0 < l k ↔ 0 < leS l u v k := by
  intro k
  by_cases q : k = u
  · rw [q, leS_u]; exact h
  · rw [leS_o q]
theorem bo_lay_s {S : mj_S} {h : mj_H} (hs : HT h) {K : SK} (hK : KC K h) (hO : KO K) {F : SF} (hFO : FO K.1 F) {f : Nat} (hf : f < F.1) {s : Nat} {cd : Nat → Nat} {L : Nat → Pl} (hL : okLy K.1 L) {l : Nat → Nat} (hl : ∀ k, l k ≤ fS F f k) (hZ : BS K F f s cd L l h) {k : Nat} (hk : k < 64) (ho : opF F f k) {c : Nat} (hc : c < s) (hN : L k = none) (h0 : 0 < l (cd c / 8)) : Cl S bo_lay [.ref 7, .int (nI (k)), .int (nI (c))] h (fun r h' => r = none ∧ BS K F f s cd (lyS L k (some (cd c / 8, cd c % 8))) (leS l (cd c / 8) (l (cd c / 8) - 1)) h' ∧ Fr Wlc h h') := by
  show Ex S bo_lay 0 [some (.ref 7), some (.int (nI (k))), some (.int (nI (c))), none] [] h _
  have hn4 := HT_n hs
  have hk40 := hO.1
  have hsz := (hFO.2.2 f hf).1
  have hl9 : ∀ k, k < 40 → l k ≤ 99 := fun k hk => Nat.le_trans (hl k) ((hFO.2.2 f hf).2.2 k hk).1
  have hX := hZ.1
  have hG := hZ.2
  have hcd := (hX.1.1.1.1 c hc).1
  have hw : wtB F f L k = true := by unfold wtB; rw [decide_eq_true_eq]; exact ⟨ho, hN⟩
  have hLp : okLy K.1 (lyS L k (some (cd c / 8, cd c % 8))) := okLy_s hL ⟨show cd c / 8 < K.1 by omega, Nat.mod_lt _ (by decide)⟩
  have hcq : nI (cd c) = cQ (some (cd c / 8, cd c % 8)) := by show _ = nI (8 * (cd c / 8) + cd c % 8); congr 1; omega
  have hX1 : BX K F f s cd (lyS L k (some (cd c / 8, cd c % 8))) l (wnS K F f L) (wI h 11 k (nI (cd c))) := by rw [hcq]; exact BX_c hs hX ho _
  have hG1 : FgX K F f s cd (lyS L k (some (cd c / 8, cd c % 8))) l (wnS K F f L) (wI h 11 k (nI (cd c))) := fun j hj hw => by rw [mI_oth (Or.inl (by decide))]; exact hG j hj (wt_lay hw)
  have fr1 : Fr Wlc h (wI h 11 k (nI (cd c))) := Fr.rf.sI (Or.inl rfl)
  have hs1 : HT (wI h 11 k (nI (cd c))) := hs
  refine Ex_aload_n d_bo_lay_0 rfl ?_
  refine Ex_getR (v := .ref 8) d_bo_lay_1 pf_bo_41 rfl (t_7 hs) (r_7_0 hs) ?_
  refine Ex_iload_n d_bo_lay_4 rfl ?_
  refine Ex_pV1 (v := .int (nI (cd c))) d_bo_lay_5 pk_bo_lay_113 (t_8 hs) (ch_codeOf_v hs hO hX.1.1 hc) ?_
  refine Ex_istore_n [some (.ref 7), some (.int (nI (k))), some (.int (nI (c))), some (.int (nI (cd c)))] d_bo_lay_8 (Nat.le_of_ble_eq_true rfl) rfl ?_
  refine Ex_aload_n d_bo_lay_9 rfl ?_
  refine Ex_iload_n d_bo_lay_10 rfl ?_
  refine Ex_pV1 (v := .int (bI (wtB F f L k))) d_bo_lay_11 pk_bo_lay_93 (t_7 hs) (bo_isWaiting_s hs hk40 hL hX.2.1 hk) ?_
  refine Ex_if_eqB (wtB F f L k) 46 d_bo_lay_14 rfl rfl (fun hc14 => ?_) (fun hc14 => ?_)
  · exact absurd (hw.symm.trans hc14) (by decide)
  · refine Ex_iload_n d_bo_lay_17 rfl ?_
    refine Ex_if_ltN (cd c) 46 d_bo_lay_18 rfl rfl (by omega) (fun hc18 => ?_) (fun hc18 => ?_)
    · exfalso; omega
    · refine Ex_aload_n d_bo_lay_21 rfl ?_
      refine Ex_getR (v := .ref 11) d_bo_lay_22 pf_bo_11 rfl (t_7 hs) (r_7_4 hs) ?_
      refine Ex_iload_n d_bo_lay_25 rfl ?_
      refine Ex_iload_n d_bo_lay_26 rfl ?_
      refine Ex_iastoreN (a := k) d_bo_lay_27 (t_11 hs) rfl (by omega) (by decide) ?_
      refine Ex_aload_n d_bo_lay_28 rfl ?_
      refine Ex_iload_n d_bo_lay_29 rfl ?_
      refine Ex_iconst d_bo_lay_30 ic_m1 ?_
      refine Ex_cV2 d_bo_lay_31 pk_bo_lay_116 (t_7 hs) (bo_changeLeft_dn hs1 hO hX1.1 hX1.2.2.2.1 hX1.2.2.2.2 hc h0 hl9) ?_
      rintro rv h2 ⟨rfl, c1, c2, c3⟩
      have hs2 := c3.ht hs1 W1516_st
      have hX2 := BX_l hs1 hX1 c3 c1 c2
      have fr2 : Fr Wlc h h2 := fr1.tr (c3.mono (by intro a k; unfold W1516 Wlc; omega))
      show Ex S bo_lay 34 [some (.ref 7), some (.int (nI (k))), some (.int (nI (c))), some (.int (nI (cd c)))] [.int (bI (decide (l (cd c / 8) - 1 = 0)))] h2 _
      refine Ex_if_eqB (decide (l (cd c / 8) - 1 = 0)) 41 d_bo_lay_34 rfl rfl (fun hc34 => ?_) (fun hc34 => ?_)
      · rw [decide_eq_false_iff_not] at hc34
        have hG2 : FgX K F f s cd (lyS L k (some (cd c / 8, cd c % 8))) (leS l (cd c / 8) (l (cd c / 8) - 1)) (wnS K F f L) h2 := FgX_l (leS_i (by omega)) (FgX_fr hs1 c3 (by unfold W1516; omega) hG1)
        have hK2 := KC_B hs (fr2.mono Wlc_B) hK
        refine Ex_aload_n d_bo_lay_41 rfl ?_
        refine Ex_iload_n d_bo_lay_42 rfl ?_
        refine Ex_cV1 d_bo_lay_43 pk_bo_lay_120 (t_7 hs2) (bo_tellAround_s hs2 hK2 hO hFO hf hLp hk hX2 hG2) ?_
        rintro rv h4 ⟨rfl, t1, t2, t3⟩
        have fr4 : Fr Wlc h h4 := fr2.tr (t3.mono (by intro a k; unfold W1314 Wlc; omega))
        show Ex S bo_lay 46 [some (.ref 7), some (.int (nI (k))), some (.int (nI (c))), some (.int (nI (cd c)))] [] h4 _
        refine Ex_return d_bo_lay_46 rfl ?_
        exact ⟨rfl, BS_tl (by omega) (by omega) ho.1 t1 t2, fr4⟩
      · rw [decide_eq_true_eq] at hc34
        refine Ex_aload_n d_bo_lay_37 rfl ?_
        refine Ex_cV0 d_bo_lay_38 pk_bo_lay_80 (t_7 hs2) (bo_recountAll_s hs2 hO hLp hX2) ?_
        rintro rv h3 ⟨rfl, d1, hG3⟩
        have hs3 := d1.ht hs2 W14_st
        have hX3 := BX_14 hs2 d1 hX2
        have fr3 : Fr Wlc h h3 := fr2.tr (d1.mono (by intro a k; unfold W14 Wlc; omega))
        have hK3 := KC_B hs (fr3.mono Wlc_B) hK
        show Ex S bo_lay 41 [some (.ref 7), some (.int (nI (k))), some (.int (nI (c))), some (.int (nI (cd c)))] [] h3 _
        refine Ex_aload_n d_bo_lay_41 rfl ?_
        refine Ex_iload_n d_bo_lay_42 rfl ?_
        refine Ex_cV1 d_bo_lay_43 pk_bo_lay_120 (t_7 hs3) (bo_tellAround_s hs3 hK3 hO hFO hf hLp hk hX3 hG3) ?_
        rintro rv h4 ⟨rfl, t1, t2, t3⟩
        have fr4 : Fr Wlc h h4 := fr3.tr (t3.mono (by intro a k; unfold W1314 Wlc; omega))
        show Ex S bo_lay 46 [some (.ref 7), some (.int (nI (k))), some (.int (nI (c))), some (.int (nI (cd c)))] [] h4 _
        refine Ex_return d_bo_lay_46 rfl ?_
        exact ⟨rfl, BS_tl (by omega) (by omega) ho.1 t1 t2, fr4⟩
theorem bo_lift_s {S : mj_S} {h : mj_H} (hs : HT h) {K : SK} (hK : KC K h) (hO : KO K) {F : SF} (hFO : FO K.1 F) {f : Nat} (hf : f < F.1) {s : Nat} {cd : Nat → Nat} {L : Nat → Pl} (hL : okLy K.1 L) {l : Nat → Nat} (hl : ∀ k, l k ≤ fS F f k) (hZ : BS K F f s cd L l h) {k : Nat} (hk : k < 64) (ho : opF F f k) {c : Nat} (hc : c < s) : Cl S bo_lift [.ref 7, .int (nI (k)), .int (nI (c))] h (fun r h' => r = none ∧ BS K F f s cd (lyS L k none) (leS l (cd c / 8) (l (cd c / 8) + 1)) h' ∧ Fr Wlc h h') := by
  show Ex S bo_lift 0 [some (.ref 7), some (.int (nI (k))), some (.int (nI (c)))] [] h _
  have hn4 := HT_n hs
  have hk40 := hO.1
  have hsz := (hFO.2.2 f hf).1
  have hl9 : ∀ k, k < 40 → l k ≤ 99 := fun k hk => Nat.le_trans (hl k) ((hFO.2.2 f hf).2.2 k hk).1
  have hX := hZ.1
  have hG := hZ.2
  have hcd := (hX.1.1.1.1 c hc).1
  have hLp : okLy K.1 (lyS L k none) := okLy_s hL trivial
  have hX0 : BX K F f s cd (lyS L k none) l (wnS K F f L) (wI h 11 k (-1 : Int32)) := BX_c hs hX ho none
  refine Ex_iload_n d_bo_lift_0 rfl ?_
  refine Ex_if_ltN (k) 49 d_bo_lift_1 rfl rfl (by omega) (fun hc1 => ?_) (fun hc1 => ?_)
  · exfalso; omega
  · refine Ex_iload_n d_bo_lift_4 rfl ?_
    refine Ex_bipush d_bo_lift_5 bp_64 ?_
    refine Ex_icmp_geN (k) (64) 49 d_bo_lift_7 rfl rfl rfl (by omega) (by omega) (fun hc7 => ?_) (fun hc7 => ?_)
    · exfalso; omega
    · refine Ex_aload_n d_bo_lift_10 rfl ?_
      refine Ex_getR (v := .ref 12) d_bo_lift_11 pf_bo_17 rfl (t_7 hs) (r_7_5 hs) ?_
      refine Ex_iload_n d_bo_lift_14 rfl ?_
      refine Ex_baloadN (a := k) (y := (bI (true))) d_bo_lift_15 (t_12 hs) rfl (by omega) (by decide) (by rw [(hX.2.1 k hk).2, decide_eq_true ho]) ?_
      refine Ex_if_eqB (true) 49 d_bo_lift_16 rfl rfl (fun hc16 => ?_) (fun hc16 => ?_)
      · cases hc16
      · refine Ex_aload_n d_bo_lift_19 rfl ?_
        refine Ex_getR (v := .ref 11) d_bo_lift_20 pf_bo_11 rfl (t_7 hs) (r_7_4 hs) ?_
        refine Ex_iload_n d_bo_lift_23 rfl ?_
        refine Ex_iconst d_bo_lift_24 ic_m1 ?_
        refine Ex_iastoreN (a := k) d_bo_lift_25 (t_11 hs) rfl (by omega) (by decide) ?_
        refine Ex_aload_n d_bo_lift_26 rfl ?_
        refine Ex_iload_n d_bo_lift_27 rfl ?_
        refine Ex_cV1 d_bo_lift_28 pk_bo_lift_105 (t_7 hs) (bo_recount_s (show HT (wI h 11 k (-1 : Int32)) from hs) hO hLp hX0 hk) ?_
        rintro rv h1 ⟨rfl, v1, v2⟩
        have v3 : Fr W14 (wI h 11 k (-1 : Int32)) h1 := v1.mono (fun a j z => z.1)
        have hs1 : HT h1 := v3.ht (show HT (wI h 11 k (-1 : Int32)) from hs) W14_st
        have hX1 := BX_14 (show HT (wI h 11 k (-1 : Int32)) from hs) v3 hX0
        have hG1 : FgX K F f s cd (lyS L k none) l (wnS K F f L) h1 := fun j hj hw => by
          by_cases q : j = k
          · rw [q]; rw [q] at hw; exact v2 hw
          · rw [v1.I (by show 14 < mN h; omega) (fun z => q z.2), mI_oth (Or.inl (by decide))]; exact hG j hj (wt_lift q hw)
        have fr1 : Fr Wlc h h1 := (Fr.rf.sI (W := Wlc) (Or.inl rfl)).tr (v3.mono (fun a j z => Or.inr (by unfold W14 at z; omega)))
        show Ex S bo_lift 31 [some (.ref 7), some (.int (nI (k))), some (.int (nI (c)))] [] h1 _
        refine Ex_aload_n d_bo_lift_31 rfl ?_
        refine Ex_iload_n d_bo_lift_32 rfl ?_
        refine Ex_iconst d_bo_lift_33 ic_1 ?_
        refine Ex_cV2 d_bo_lift_34 pk_bo_lift_116 (t_7 hs1) (bo_changeLeft_up hs1 hO hX1.1 hX1.2.2.2.1 hX1.2.2.2.2 hc hl9) ?_
        rintro rv h2 ⟨rfl, c1, c2, c3⟩
        have hs2 := c3.ht hs1 W1516_st
        have hX2 := BX_l hs1 hX1 c3 c1 c2
        have fr2 : Fr Wlc h h2 := fr1.tr (c3.mono (by intro a k; unfold W1516 Wlc; omega))
        show Ex S bo_lift 37 [some (.ref 7), some (.int (nI (k))), some (.int (nI (c)))] [.int (bI (decide (l (cd c / 8) = 0)))] h2 _
        refine Ex_if_eqB (decide (l (cd c / 8) = 0)) 44 d_bo_lift_37 rfl rfl (fun hc37 => ?_) (fun hc37 => ?_)
        · rw [decide_eq_false_iff_not] at hc37
          have hG2 : FgX K F f s cd (lyS L k none) (leS l (cd c / 8) (l (cd c / 8) + 1)) (wnS K F f L) h2 := FgX_l (leS_i (by omega)) (FgX_fr hs1 c3 (by unfold W1516; omega) hG1)
          have hK2 := KC_B hs (fr2.mono Wlc_B) hK
          refine Ex_aload_n d_bo_lift_44 rfl ?_
          refine Ex_iload_n d_bo_lift_45 rfl ?_
          refine Ex_cV1 d_bo_lift_46 pk_bo_lift_120 (t_7 hs2) (bo_tellAround_s hs2 hK2 hO hFO hf hLp hk hX2 hG2) ?_
          rintro rv h4 ⟨rfl, t1, t2, t3⟩
          have fr4 : Fr Wlc h h4 := fr2.tr (t3.mono (by intro a k; unfold W1314 Wlc; omega))
          show Ex S bo_lift 49 [some (.ref 7), some (.int (nI (k))), some (.int (nI (c)))] [] h4 _
          refine Ex_return d_bo_lift_49 rfl ?_
          exact ⟨rfl, BS_tl (by omega) (by omega) ho.1 t1 t2, fr4⟩
        · rw [decide_eq_true_eq] at hc37
          refine Ex_aload_n d_bo_lift_40 rfl ?_
          refine Ex_cV0 d_bo_lift_41 pk_bo_lift_80 (t_7 hs2) (bo_recountAll_s hs2 hO hLp hX2) ?_
          rintro rv h3 ⟨rfl, d1, hG3⟩
          have hs3 := d1.ht hs2 W14_st
          have hX3 := BX_14 hs2 d1 hX2
          have fr3 : Fr Wlc h h3 := fr2.tr (d1.mono (by intro a k; unfold W14 Wlc; omega))
          have hK3 := KC_B hs (fr3.mono Wlc_B) hK
          show Ex S bo_lift 44 [some (.ref 7), some (.int (nI (k))), some (.int (nI (c)))] [] h3 _
          refine Ex_aload_n d_bo_lift_44 rfl ?_
          refine Ex_iload_n d_bo_lift_45 rfl ?_
          refine Ex_cV1 d_bo_lift_46 pk_bo_lift_120 (t_7 hs3) (bo_tellAround_s hs3 hK3 hO hFO hf hLp hk hX3 hG3) ?_
          rintro rv h4 ⟨rfl, t1, t2, t3⟩
          have fr4 : Fr Wlc h h4 := fr3.tr (t3.mono (by intro a k; unfold W1314 Wlc; omega))
          show Ex S bo_lift 49 [some (.ref 7), some (.int (nI (k))), some (.int (nI (c)))] [] h4 _
          refine Ex_return d_bo_lift_49 rfl ?_
          exact ⟨rfl, BS_tl (by omega) (by omega) ho.1 t1 t2, fr4⟩
