/-! The class: a board begins; the given ones; a floor shows what lies. -/
theorem bo_begin_s {S : mj_S} {h : mj_H} (hs : HT h) {K : SK} (hK : KC K h) (hO : KO K) {F : SF} {Y : OW} (hFO : FO K.1 F) {f a b c d : Nat} (hf : f < F.1) (hx : FlC1 F Y h f a b c d) : Cl S bo_begin [.ref 7, .ref (a)] h (fun r h' => r = none ∧ (∃ s cd, BS K F f s cd nL0 (fS F f) h') ∧ mI h' 7 1 = nI (nOp F f) ∧ Fr WBo h h') := by
  show Ex S bo_begin 0 [some (.ref 7), some (.ref (a)), none] [] h _
  have hn4 := HT_n hs
  have ha := hx.1.1.1
  refine Ex_aload_n d_bo_begin_0 rfl ?_
  refine Ex_getR (v := .ref 8) d_bo_begin_1 pf_bo_41 rfl (t_7 hs) (r_7_0 hs) ?_
  refine Ex_aload_n d_bo_begin_4 rfl ?_
  refine Ex_cV1 d_bo_begin_5 pk_bo_begin_45 (t_8 hs) (ch_gather_s hs hK hO hFO hf hx) ?_
  rintro rv h1 ⟨rfl, ⟨s, cd, g1, g2⟩, g3⟩
  have hs1 := g3.ht hs WBo_st
  have hx1 := FlC1_B hs g3 hx
  show Ex S bo_begin 8 [some (.ref 7), some (.ref (a)), none] [] h1 _
  refine Ex_aload_n d_bo_begin_8 rfl ?_
  refine Ex_aload_n d_bo_begin_9 rfl ?_
  refine Ex_getIE (y := (nI (fR F f))) d_bo_begin_10 pf_bo_49 rfl hx1.2.1.2.1 hx1.2.2.1.1 ?_
  refine Ex_putI d_bo_begin_13 pf_bo_53 (Or.inl rfl) (t_7 hs1) (Or.inl rfl) ?_
  refine Ex_aload_n d_bo_begin_16 rfl ?_
  refine Ex_aload_n d_bo_begin_17 rfl ?_
  refine Ex_getIE (y := (nI (fC F f))) d_bo_begin_18 pf_bo_54 rfl hx1.2.1.2.1 (by rw [mI_oth (Or.inl (by omega))]; exact hx1.2.2.1.2) ?_
  refine Ex_putI d_bo_begin_21 pf_bo_57 (Or.inl rfl) (t_7 hs1) (Or.inl rfl) ?_
  refine Ex_aload_n d_bo_begin_24 rfl ?_
  refine Ex_iconst d_bo_begin_25 ic_0 ?_
  refine Ex_putI d_bo_begin_26 pf_bo_58 (Or.inl rfl) (t_7 hs1) (Or.inl rfl) ?_
  refine Ex_iconst d_bo_begin_29 ic_0 ?_
  refine Ex_istore_n [some (.ref 7), some (.ref (a)), some (.int (0))] d_bo_begin_30 (Nat.le_of_ble_eq_true rfl) rfl ?_
  have hs3 : HT (wI (wI (wI h1 7 2 (nI (fR F f))) 7 3 (nI (fC F f))) 7 1 (0 : Int32)) := hs1
  have fr3 : Fr WBo h (wI (wI (wI h1 7 2 (nI (fR F f))) 7 3 (nI (fC F f))) 7 1 (0 : Int32)) := ((g3.sI (by unfold WBo; omega)).sI (by unfold WBo; omega)).sI (by unfold WBo; omega)
  have hT3 : BT K F f s cd (wI (wI (wI h1 7 2 (nI (fR F f))) 7 3 (nI (fC F f))) 7 1 (0 : Int32)) := by
    refine ⟨⟨g1.1, ?_, fun c hc => ?_⟩, fun e c w he hc hw => g2 e c w he hc hw, ?_, ?_⟩
    · rw [mI_oth (Or.inl (by decide)), mI_oth (Or.inl (by decide)), mI_oth (Or.inl (by decide))]; exact g1.2.1
    · rw [mI_oth (Or.inl (by decide)), mI_oth (Or.inl (by decide)), mI_oth (Or.inl (by decide))]; exact g1.2.2 c hc
    · rw [mI_oth (Or.inr (by decide)), mI_oth (Or.inr (by decide)), mI_self]
    · rw [mI_oth (Or.inr (by decide)), mI_self]
  have hK3 := KC_B hs fr3 hK
  have hx3 := FlC1_B hs fr3 hx
  have h71 : mI (wI (wI (wI h1 7 2 (nI (fR F f))) 7 3 (nI (fC F f))) 7 1 (0 : Int32)) 7 1 = nI 0 := mI_self _ _ _ _
  revert hs3 fr3 hT3 hK3 hx3 h71
  generalize (wI (wI (wI h1 7 2 (nI (fR F f))) 7 3 (nI (fC F f))) 7 1 (0 : Int32)) = h3
  intro hs3 fr3 hT3 hK3 hx3 h71
  refine bo_begin_L1 hs3 hK3 hO hFO hf hx3 hT3.2.2 (fun h4 hI4 => ?_) 64 0 rfl h3 ⟨Fr.rf, fun k hk => absurd hk (Nat.not_lt_zero _), h71⟩
  have hs4 := hI4.1.ht hs3 bgI_st
  have fr4 : Fr WBo h h4 := fr3.tr (hI4.1.mono (by intro a k; unfold WBo; omega))
  have hT4 : BT K F f s cd h4 := BT_fr hs3 hI4.1 (by omega) (by omega) (by omega) (by omega) hT3
  have hx4 := FlC1_B hs fr4 hx
  have hK4 := KC_B hs fr4 hK
  have hB4 : BcC F f nL0 h4 := fun k hk => by rw [cd_0]; exact hI4.2.1 k hk
  have h71 : mI h4 7 1 = nI (nOp F f) := hI4.2.2
  refine Ex_iconst d_bo_begin_106 ic_0 ?_
  refine Ex_istore_n [some (.ref 7), some (.ref (a)), some (.int (0))] d_bo_begin_107 (Nat.le_of_ble_eq_true rfl) rfl ?_
  refine bo_begin_L2 hs4 hK4 hO hFO hf hx4 (fun h5 hI5 => ?_) 40 0 rfl h4 ⟨Fr.rf, fun j hj => absurd hj (Nat.not_lt_zero _)⟩
  have hs5 := hI5.1.ht hs4 W15_st
  have hn5 := HT_n hs5
  have fr5 : Fr WBo h h5 := fr4.tr (hI5.1.mono W15_B)
  have hT5 : BT K F f s cd h5 := BT_fr hs4 hI5.1 (by unfold W15; omega) (by unfold W15; omega) (by unfold W15; omega) (by unfold W15; omega) hT4
  have hB5 : BcC F f nL0 h5 := BcC_fr hs4 hI5.1 (by unfold W15; omega) (by unfold W15; omega) hB4
  have h715 : mI h5 7 1 = nI (nOp F f) := by rw [hI5.1.I (by have := HT_n hs4; omega) (by unfold W15; omega)]; exact h71
  refine Ex_iconst d_bo_begin_131 ic_0 ?_
  refine Ex_istore_n [some (.ref 7), some (.ref (a)), some (.int (0))] d_bo_begin_132 (Nat.le_of_ble_eq_true rfl) rfl ?_
  refine bo_begin_L3 hs5 (K := K) (F := F) (f := f) hT5.1.1 hT5.2.1 (fun h6 hI6 => ?_) 5 0 rfl h5 ⟨Fr.rf, fun j hj => absurd hj (Nat.not_lt_zero _)⟩
  have hs6 := hI6.1.ht hs5 W16_st
  have hn6 := HT_n hs6
  have fr6 : Fr WBo h h6 := fr5.tr (hI6.1.mono W16_B)
  have hT6 : BT K F f s cd h6 := BT_fr hs5 hI6.1 (by unfold W16; omega) (by unfold W16; omega) (by unfold W16; omega) (by unfold W16; omega) hT5
  have hB6 : BcC F f nL0 h6 := BcC_fr hs5 hI6.1 (by unfold W16; omega) (by unfold W16; omega) hB5
  have h716 : mI h6 7 1 = nI (nOp F f) := by rw [hI6.1.I (by omega) (by unfold W16; omega)]; exact h715
  have hLf6 : LfC (fS F f) h6 := LfC_fr hs5 hI6.1 (by unfold W16; omega) (fun k hk => hI5.2 k hk)
  have hK6 := KC_B hs fr6 hK
  refine Ex_iconst d_bo_begin_158 ic_0 ?_
  refine Ex_istore_n [some (.ref 7), some (.ref (a)), some (.int (0))] d_bo_begin_159 (Nat.le_of_ble_eq_true rfl) rfl ?_
  refine bo_begin_L4 hs6 hK6 hO hFO hf (okLy_0 _) hT6.2.2 hB6 (fun h7 hI7 => ?_) 64 0 rfl h6 ⟨Fr.rf, fun j hj => absurd hj (Nat.not_lt_zero _)⟩
  have hs7 := hI7.1.ht hs6 W13_st
  have hn7 := HT_n hs7
  have fr7 : Fr WBo h h7 := fr6.tr (hI7.1.mono W13_B)
  have h717 : mI h7 7 1 = nI (nOp F f) := by rw [hI7.1.I (by omega) (by unfold W13; omega)]; exact h716
  have hX7 : BX K F f s cd nL0 (fS F f) (wnS K F f nL0) h7 := ⟨BT_fr hs6 hI7.1 (by unfold W13; omega) (by unfold W13; omega) (by unfold W13; omega) (by unfold W13; omega) hT6, BcC_fr hs6 hI7.1 (by unfold W13; omega) (by unfold W13; omega) hB6, fun k hk _ e he => ⟨hI7.2 k hk e he, coS_17 _ _ _⟩, LfC_fr hs6 hI7.1 (by unfold W13; omega) hLf6, LbC_fr hs6 hI7.1 (by unfold W13; omega) (fun w hw => hI6.2 w hw)⟩
  refine Ex_aload_n d_bo_begin_177 rfl ?_
  refine Ex_cV0 d_bo_begin_178 pk_bo_begin_80 (t_7 hs7) (bo_recountAll_s hs7 hO (okLy_0 _) hX7) ?_
  rintro rv h8 ⟨rfl, t1, t2⟩
  show Ex S bo_begin 181 [some (.ref 7), some (.ref (a)), some (.int (nI (64)))] [] h8 _
  refine Ex_return d_bo_begin_181 rfl ?_
  exact ⟨rfl, ⟨s, cd, BX_14 hs7 t1 hX7, t2⟩, by rw [t1.I (by omega) (by unfold W14; omega)]; exact h717, fr7.tr (t1.mono W14_B)⟩
theorem gdS_f {K : SK} {F : SF} {f k : Nat} (h : gd1 K F f k = false) : ∀ n, k < n → gdS K F f n = false
  | 0, hk => absurd hk (Nat.not_lt_zero _)
  | n + 1, hk => by
    show (gdS K F f n && gd1 K F f n) = false
    by_cases q : k = n
    · rw [← q, h, Bool.and_false]
    · rw [gdS_f h n (by omega), Bool.false_and]
theorem gdS_t {K : SK} {F : SF} {f k : Nat} (h1 : gdS K F f k = true) (h2 : gd1 K F f k = true) : gdS K F f (k + 1) = true := by
  show (gdS K F f k && gd1 K F f k) = true
  rw [h1, h2]; rfl
theorem bo_givenOnesFit_I {S : mj_S} {Q : Option Value → mj_H → Prop} {h : mj_H} (hs : HT h) {K : SK} (hK : KC K h) (hO : KO K) {F : SF} (hFO : FO K.1 F) {f : Nat} (hf : f < F.1) {s : Nat} {cd l : Nat → Nat} (hZ : BS K F f s cd nL0 l h) {k : Nat} (hk : k < 64) {q : Nat × Nat} (hq : fT F f k = some (some q)) (hin : inF F f k)
    (kx : mayB K F f nL0 k (some q) = true → Ex S bo_givenOnesFit 67 [some (.ref 7), some (.int (nI (k))), some (.int (nI (4))), none] [] h Q) (kf : mayB K F f nL0 k (some q) = false → Q (some (.int 0)) h) : ∀ d e : Nat, e + d = 4 → (∀ u, u < e → wkB (wnS K F f nL0 k u) (kCol K q.1 q.2 u)) → Ex S bo_givenOnesFit 10 [some (.ref 7), some (.int (nI (k))), some (.int (nI (e))), none] [] h Q := by
  have hk40 := hO.1
  have ho := ((hFO.2.2 f hf).2.1 k hk).1
  rw [hq] at ho
  obtain ⟨q1, q2⟩ := q
  have hq1 : q1 < K.1 := ho.1
  have hq2 : q2 < 8 := ho.2
  have hcd : mI h 11 k = nI (8 * q1 + q2) := by rw [(hZ.1.2.1 k hk).1, cd_0, hq]; rfl
  intro d
  induction d with
  | zero =>
    intro e hkk hu
    obtain rfl : 4 = e := by omega
    refine Ex_iload_n d_bo_givenOnesFit_10 rfl ?_
    refine Ex_iconst d_bo_givenOnesFit_11 ic_4 ?_
    refine Ex_icmp_geN (4) (4) 67 d_bo_givenOnesFit_12 rfl rfl rfl (by omega) (by omega) (fun hc12 => ?_) (fun hc12 => ?_)
    · exact kx (may_w.mpr hu)
    · exfalso; omega
  | succ d ih =>
    intro e hkk hu
    refine Ex_iload_n d_bo_givenOnesFit_10 rfl ?_
    refine Ex_iconst d_bo_givenOnesFit_11 ic_4 ?_
    refine Ex_icmp_geN (e) (4) 67 d_bo_givenOnesFit_12 rfl rfl rfl (by omega) (by omega) (fun hc12 => ?_) (fun hc12 => ?_)
    · exfalso; omega
    · refine Ex_aload_n d_bo_givenOnesFit_15 rfl ?_
      refine Ex_getR (v := .ref 11) d_bo_givenOnesFit_16 pf_bo_11 rfl (t_7 hs) (r_7_4 hs) ?_
      refine Ex_iload_n d_bo_givenOnesFit_19 rfl ?_
      refine Ex_ialoadN (a := k) (y := (nI (8 * q1 + q2))) d_bo_givenOnesFit_20 (t_11 hs) rfl (by omega) (by decide) hcd ?_
      refine Ex_if_ltN (8 * q1 + q2) 67 d_bo_givenOnesFit_21 rfl rfl (by omega) (fun hc21 => ?_) (fun hc21 => ?_)
      · exfalso; omega
      · refine Ex_aload_n d_bo_givenOnesFit_24 rfl ?_
        refine Ex_getR (v := .ref 13) d_bo_givenOnesFit_25 pf_bo_21 rfl (t_7 hs) (r_7_6 hs) ?_
        refine Ex_iload_n d_bo_givenOnesFit_28 rfl ?_
        refine Ex_iconst d_bo_givenOnesFit_29 ic_4 ?_
        refine Ex_imulN (k) (4) d_bo_givenOnesFit_30 rfl rfl ?_
        refine Ex_iload_n d_bo_givenOnesFit_31 rfl ?_
        refine Ex_iaddN (k * 4) (e) d_bo_givenOnesFit_32 rfl rfl ?_
        refine Ex_ialoadN (a := (k * 4) + e) (y := (nI (wnS K F f nL0 k e))) d_bo_givenOnesFit_33 (t_13 hs) rfl (by omega) (by decide) (hZ.1.2.2.1 k hk hin e (by omega)).1 ?_
        refine Ex_istore_n [some (.ref 7), some (.int (nI (k))), some (.int (nI (e))), some (.int (nI (wnS K F f nL0 k e)))] d_bo_givenOnesFit_34 (Nat.le_of_ble_eq_true rfl) rfl ?_
        have hw17 := (hZ.1.2.2.1 k hk hin e (by omega)).2
        refine Ex_iload_n d_bo_givenOnesFit_35 rfl ?_
        refine Ex_bipush d_bo_givenOnesFit_36 bp_16 ?_
        refine Ex_icmp_eqN (wnS K F f nL0 k e) (16) 61 d_bo_givenOnesFit_38 rfl rfl rfl (by omega) (by omega) (fun hc38 => ?_) (fun hc38 => ?_)
        · refine Ex_iincN (e) 1 [some (.ref 7), some (.int (nI (k))), some (.int (nI (e + 1))), some (.int (nI (wnS K F f nL0 k e)))] d_bo_givenOnesFit_61 rfl rfl rfl rfl ?_
          refine Ex_goto 10 d_bo_givenOnesFit_64 rfl ?_
          refine Ex_forget (ls' := [some (.ref 7), some (.int (nI (k))), some (.int (nI (e + 1))), none]) (sub_s (sub_s (sub_s (sub_n sub_0)))) ?_
          refine ih (e + 1) (by omega) (fun u hu2 => ?_)
          by_cases y : u = e
          · rw [y]; first | exact Or.inl hc38 | exact Or.inr hc56.symm
          · exact hu u (by omega)
        · refine Ex_iload_n d_bo_givenOnesFit_41 rfl ?_
          refine Ex_aload_n d_bo_givenOnesFit_42 rfl ?_
          refine Ex_getR (v := .ref 8) d_bo_givenOnesFit_43 pf_bo_41 rfl (t_7 hs) (r_7_0 hs) ?_
          refine Ex_aload_n d_bo_givenOnesFit_46 rfl ?_
          refine Ex_getR (v := .ref 11) d_bo_givenOnesFit_47 pf_bo_11 rfl (t_7 hs) (r_7_4 hs) ?_
          refine Ex_iload_n d_bo_givenOnesFit_50 rfl ?_
          refine Ex_ialoadN (a := k) (y := (nI (8 * q1 + q2))) d_bo_givenOnesFit_51 (t_11 hs) rfl (by omega) (by decide) hcd ?_
          refine Ex_iload_n d_bo_givenOnesFit_52 rfl ?_
          refine Ex_pV2 (v := .int (nI (kCol K q1 q2 e))) d_bo_givenOnesFit_53 pk_bo_givenOnesFit_90 (t_8 hs) (show Cl S ch_colourOf [.ref 8, .int (nI (8 * q1 + q2)), .int (nI e)] h (Pu (.int (nI (kCol K q1 q2 e))) h) by have z := ch_colourOf_v (S := S) hs hK hO (n := 8 * q1 + q2) (by omega) (e := e) (by omega); rw [show (8 * q1 + q2) / 8 = q1 by omega, show (8 * q1 + q2) % 8 = q2 by omega] at z; exact z) ?_
          refine Ex_icmp_eqN (wnS K F f nL0 k e) (kCol K q1 q2 e) 61 d_bo_givenOnesFit_56 rfl rfl rfl (by have := kCol_16 K q1 q2 e; omega) (by have := kCol_16 K q1 q2 e; omega) (fun hc56 => ?_) (fun hc56 => ?_)
          · refine Ex_iincN (e) 1 [some (.ref 7), some (.int (nI (k))), some (.int (nI (e + 1))), some (.int (nI (wnS K F f nL0 k e)))] d_bo_givenOnesFit_61 rfl rfl rfl rfl ?_
            refine Ex_goto 10 d_bo_givenOnesFit_64 rfl ?_
            refine Ex_forget (ls' := [some (.ref 7), some (.int (nI (k))), some (.int (nI (e + 1))), none]) (sub_s (sub_s (sub_s (sub_n sub_0)))) ?_
            refine ih (e + 1) (by omega) (fun u hu2 => ?_)
            by_cases y : u = e
            · rw [y]; first | exact Or.inl hc38 | exact Or.inr hc56.symm
            · exact hu u (by omega)
          · refine Ex_iconst d_bo_givenOnesFit_59 ic_0 ?_
            refine Ex_zreturn d_bo_givenOnesFit_60 rfl (by decide) ?_
            refine kf ?_
            rw [← Bool.not_eq_true, may_w]
            intro z
            exact (z e (by omega)).elim hc38 (fun y => hc56 y.symm)
theorem bo_givenOnesFit_L {S : mj_S} {h : mj_H} (hs : HT h) {K : SK} (hK : KC K h) (hO : KO K) {F : SF} (hFO : FO K.1 F) {f : Nat} (hf : f < F.1) {s : Nat} {cd l : Nat → Nat} (hZ : BS K F f s cd nL0 l h) (hFZ : FZ F) : ∀ d k : Nat, k + d = 64 → gdS K F f k = true → Ex S bo_givenOnesFit 2 [some (.ref 7), some (.int (nI (k))), none, none] [] h (Pu (.int (bI (gdS K F f 64))) h) := by
  intro d
  induction d with
  | zero =>
    intro k hkk hg
    obtain rfl : 64 = k := by omega
    refine Ex_iload_n d_bo_givenOnesFit_2 rfl ?_
    refine Ex_bipush d_bo_givenOnesFit_3 bp_64 ?_
    refine Ex_icmp_geN (64) (64) 73 d_bo_givenOnesFit_5 rfl rfl rfl (by omega) (by omega) (fun hc5 => ?_) (fun hc5 => ?_)
    · refine Ex_iconst d_bo_givenOnesFit_73 ic_1 ?_
      refine Ex_zreturn d_bo_givenOnesFit_74 rfl (by decide) ?_
      exact ⟨by rw [hg]; rfl, rfl⟩
    · exfalso; omega
  | succ d ih =>
    intro k hkk hg
    refine Ex_iload_n d_bo_givenOnesFit_2 rfl ?_
    refine Ex_bipush d_bo_givenOnesFit_3 bp_64 ?_
    refine Ex_icmp_geN (k) (64) 73 d_bo_givenOnesFit_5 rfl rfl rfl (by omega) (by omega) (fun hc5 => ?_) (fun hc5 => ?_)
    · exfalso; omega
    · refine Ex_iconst d_bo_givenOnesFit_8 ic_0 ?_
      refine Ex_istore_n [some (.ref 7), some (.int (nI (k))), some (.int (0)), none] d_bo_givenOnesFit_9 (Nat.le_of_ble_eq_true rfl) rfl ?_
      rcases hq : fT F f k with _ | q0
      · refine Ex_iload_n d_bo_givenOnesFit_10 rfl ?_
        refine Ex_iconst d_bo_givenOnesFit_11 ic_4 ?_
        refine Ex_icmp_geN (0) (4) 67 d_bo_givenOnesFit_12 rfl rfl rfl (by omega) (by omega) (fun hc12 => ?_) (fun hc12 => ?_)
        · exact absurd hc12 (by decide)
        · refine Ex_aload_n d_bo_givenOnesFit_15 rfl ?_
          refine Ex_getR (v := .ref 11) d_bo_givenOnesFit_16 pf_bo_11 rfl (t_7 hs) (r_7_4 hs) ?_
          refine Ex_iload_n d_bo_givenOnesFit_19 rfl ?_
          refine Ex_ialoadN (a := k) (y := (-1 : Int32)) d_bo_givenOnesFit_20 (t_11 hs) rfl (by omega) (by decide) (by rw [(hZ.1.2.1 k (by omega)).1, cd_0, hq]; rfl) ?_
          refine Ex_if_ltZ ((-1)) 67 d_bo_givenOnesFit_21 rfl (by decide) (by omega) (fun hc21 => ?_) (fun hc21 => ?_)
          · refine Ex_iincN (k) 1 [some (.ref 7), some (.int (nI (k + 1))), some (.int (0)), none] d_bo_givenOnesFit_67 rfl rfl rfl rfl ?_
            refine Ex_goto 2 d_bo_givenOnesFit_70 rfl ?_
            refine Ex_forget (ls' := [some (.ref 7), some (.int (nI (k + 1))), none, none]) (sub_s (sub_s (sub_n (sub_n sub_0)))) ?_
            exact ih (k + 1) (by omega) (gdS_t hg (gd1_t (by rw [hq]; simp)))
          · exact absurd hc21 (by decide)
      · rcases q0 with _ | q
        · refine Ex_iload_n d_bo_givenOnesFit_10 rfl ?_
          refine Ex_iconst d_bo_givenOnesFit_11 ic_4 ?_
          refine Ex_icmp_geN (0) (4) 67 d_bo_givenOnesFit_12 rfl rfl rfl (by omega) (by omega) (fun hc12 => ?_) (fun hc12 => ?_)
          · exact absurd hc12 (by decide)
          · refine Ex_aload_n d_bo_givenOnesFit_15 rfl ?_
            refine Ex_getR (v := .ref 11) d_bo_givenOnesFit_16 pf_bo_11 rfl (t_7 hs) (r_7_4 hs) ?_
            refine Ex_iload_n d_bo_givenOnesFit_19 rfl ?_
            refine Ex_ialoadN (a := k) (y := (-2 : Int32)) d_bo_givenOnesFit_20 (t_11 hs) rfl (by omega) (by decide) (by rw [(hZ.1.2.1 k (by omega)).1, cd_0, hq]; rfl) ?_
            refine Ex_if_ltZ ((-2)) 67 d_bo_givenOnesFit_21 rfl (by decide) (by omega) (fun hc21 => ?_) (fun hc21 => ?_)
            · refine Ex_iincN (k) 1 [some (.ref 7), some (.int (nI (k + 1))), some (.int (0)), none] d_bo_givenOnesFit_67 rfl rfl rfl rfl ?_
              refine Ex_goto 2 d_bo_givenOnesFit_70 rfl ?_
              refine Ex_forget (ls' := [some (.ref 7), some (.int (nI (k + 1))), none, none]) (sub_s (sub_s (sub_n (sub_n sub_0)))) ?_
              exact ih (k + 1) (by omega) (gdS_t hg (gd1_t (by rw [hq]; simp)))
            · exact absurd hc21 (by decide)
        · have hin : inF F f k := by
            apply Classical.byContradiction
            intro z
            have := (hFZ f k hf z).1
            rw [hq] at this
            cases this
          refine bo_givenOnesFit_I hs hK hO hFO hf hZ (by omega) hq hin (fun hm => ?_) (fun hm => ?_) 4 0 rfl (fun u hu => absurd hu (Nat.not_lt_zero _))
          · refine Ex_iincN (k) 1 [some (.ref 7), some (.int (nI (k + 1))), some (.int (nI (4))), none] d_bo_givenOnesFit_67 rfl rfl rfl rfl ?_
            refine Ex_goto 2 d_bo_givenOnesFit_70 rfl ?_
            refine Ex_forget (ls' := [some (.ref 7), some (.int (nI (k + 1))), none, none]) (sub_s (sub_s (sub_n (sub_n sub_0)))) ?_
            exact ih (k + 1) (by omega) (gdS_t hg ((gd1_q hin hq).trans hm))
          · exact ⟨by rw [gdS_f ((gd1_q hin hq).trans hm) 64 (by omega)]; rfl, rfl⟩
theorem bo_givenOnesFit_s {S : mj_S} {h : mj_H} (hs : HT h) {K : SK} (hK : KC K h) (hO : KO K) {F : SF} (hFO : FO K.1 F) {f : Nat} (hf : f < F.1) {s : Nat} {cd l : Nat → Nat} (hZ : BS K F f s cd nL0 l h) (hFZ : FZ F) : Cl S bo_givenOnesFit [.ref 7] h (Pu (.int (bI (gdS K F f 64))) h) := by
  show Ex S bo_givenOnesFit 0 [some (.ref 7), none, none, none] [] h _
  refine Ex_iconst d_bo_givenOnesFit_0 ic_0 ?_
  refine Ex_istore_n [some (.ref 7), some (.int (0)), none, none] d_bo_givenOnesFit_1 (Nat.le_of_ble_eq_true rfl) rfl ?_
  exact bo_givenOnesFit_L hs hK hO hFO hf hZ hFZ 64 0 rfl rfl
def sxL (F : SF) (f : Nat) (L G : Nat → Pl) (k j : Nat) : Pl := if j < k then shL F f L j else G j
theorem FlC1_sh {F : SF} {Y : OW} {f : Nat} {G : Nat → Pl} {x : Nat} {h : mj_H} {a b c d : Nat} (z : FlC1 (setF F f G x) Y h f a b c d) (k : Nat) {G' : Nat → Pl} {p : Pl} (hG : ∀ j, G' j = if j = k then p else G j) : FlC1 (setF F f G' x) Y (wI h c k (cQ p)) f a b c d := by
  have ne := Fl_ne z
  obtain ⟨z1, z2, z3, z4, z5⟩ := z
  have hf' : ∀ G : Nat → Pl, fL (setF F f G x) f = G := fun G => if_pos rfl
  refine ⟨z1, z2, ⟨?_, ?_⟩, fun j hj => ⟨?_, ?_⟩, fun j hj => ?_⟩
  · rw [mI_oth (Or.inl (by omega))]; exact z3.1
  · rw [mI_oth (Or.inl (by omega))]; exact z3.2
  · rw [mI_oth (Or.inl (by omega))]; exact (z4 j hj).1
  · have w := (z4 j hj).2
    rw [hf'] at w ⊢
    rw [hG j]
    by_cases q : j = k
    · rw [if_pos q, q, mI_self]
    · rw [if_neg q, mI_oth (Or.inr q)]; exact w
  · rw [mI_oth (Or.inl (by omega))]; exact z5 j hj
theorem FlC1_g {F : SF} {Y : OW} {f : Nat} {G G' : Nat → Pl} {x x' : Nat} {h : mj_H} {a b c d : Nat} (z : FlC1 (setF F f G x) Y h f a b c d) (hG : ∀ j, j < 64 → G' j = G j) : FlC1 (setF F f G' x') Y h f a b c d := by
  obtain ⟨z1, z2, z3, z4, z5⟩ := z
  have hf' : ∀ (G : Nat → Pl) (x : Nat), fL (setF F f G x) f = G := fun G x => if_pos rfl
  refine ⟨z1, z2, z3, fun j hj => ⟨(z4 j hj).1, ?_⟩, z5⟩
  have w := (z4 j hj).2
  rw [hf'] at w ⊢
  rw [hG j hj]
  exact w
theorem FlC1_f {F : SF} {Y : OW} {f : Nat} {h : mj_H} {a b c d : Nat} (z : FlC1 F Y h f a b c d) (x : Nat) : FlC1 (setF F f (fL F f) x) Y h f a b c d := by
  obtain ⟨z1, z2, z3, z4, z5⟩ := z
  refine ⟨z1, z2, z3, fun j hj => ⟨(z4 j hj).1, ?_⟩, z5⟩
  rw [show fL (setF F f (fL F f) x) f = fL F f from if_pos rfl]
  exact (z4 j hj).2
theorem bo_showOn_L {S : mj_S} {Q : Option Value → mj_H → Prop} {h : mj_H} (hs : HT h) {n : Nat} (hn : n ≤ 40) {F : SF} {Y : OW} (hFO : FO n F) {f a b c d4 : Nat} (hf : f < F.1) {L G : Nat → Pl} (hL : okLy n L) (hGo : okLy n G) {x : Nat} (hx6 : x ≤ 600000) (hB : BcC F f L h)
    (kx : ∀ h1 : mj_H, (FlC1 (setF F f (sxL F f L G 64) x) Y h1 f a b c d4 ∧ Fr (fun y _ => y = c) h h1) → Ex S bo_showOn 38 [some (.ref 7), some (.ref (a)), some (.int (nI (64)))] [] h1 Q) : ∀ d k : Nat, k + d = 64 → ∀ h1 : mj_H, (FlC1 (setF F f (sxL F f L G k) x) Y h1 f a b c d4 ∧ Fr (fun y _ => y = c) h h1) → Ex S bo_showOn 2 [some (.ref 7), some (.ref (a)), some (.int (nI (k)))] [] h1 Q := by
  intro d
  induction d with
  | zero =>
    intro k hkk h1 hI
    obtain rfl : 64 = k := by omega
    have hn4 := HT_n hs
    have hc74 := hI.1.1.2.2.1.1
    have hs1 := hI.2.ht hs (fun q hq z => by have := st_lt q hq; omega)
    refine Ex_iload_n d_bo_showOn_2 rfl ?_
    refine Ex_bipush d_bo_showOn_3 bp_64 ?_
    refine Ex_icmp_geN (64) (64) 38 d_bo_showOn_5 rfl rfl rfl (by omega) (by omega) (fun hc5 => ?_) (fun hc5 => ?_)
    · exact kx h1 hI
    · exfalso; omega
  | succ d ih =>
    intro k hkk h1 hI
    have hn4 := HT_n hs
    have hc74 := hI.1.1.2.2.1.1
    have hs1 := hI.2.ht hs (fun q hq z => by have := st_lt q hq; omega)
    have hB1 : BcC F f L h1 := BcC_fr hs hI.2 (by omega) (by omega) hB
    have hFO1 : FO n (setF F f (sxL F f L G k) x) := setF_ok hFO (fun j => by unfold sxL shL; split; (split; exact hL j; exact trivial); exact hGo j) hx6
    refine Ex_iload_n d_bo_showOn_2 rfl ?_
    refine Ex_bipush d_bo_showOn_3 bp_64 ?_
    refine Ex_icmp_geN (k) (64) 38 d_bo_showOn_5 rfl rfl rfl (by omega) (by omega) (fun hc5 => ?_) (fun hc5 => ?_)
    · exfalso; omega
    · refine Ex_aload_n d_bo_showOn_8 rfl ?_
      refine Ex_iload_n d_bo_showOn_9 rfl ?_
      refine Ex_aload_n d_bo_showOn_10 rfl ?_
      refine Ex_getR (v := .ref 12) d_bo_showOn_11 pf_bo_17 rfl (t_7 hs1) (r_7_5 hs1) ?_
      refine Ex_iload_n d_bo_showOn_14 rfl ?_
      refine Ex_baloadN (a := k) (y := (bI (decide (opF F f k)))) d_bo_showOn_15 (t_12 hs1) rfl (by omega) (by decide) (hB1 k (by omega)).2 ?_
      refine Ex_if_eqB (decide (opF F f k)) 28 d_bo_showOn_16 rfl rfl (fun hc16 => ?_) (fun hc16 => ?_)
      · rw [decide_eq_false_iff_not] at hc16
        refine Ex_iconst d_bo_showOn_28 ic_m1 ?_
        refine Ex_cV2 d_bo_showOn_29 pk_bo_showOn_143 hI.1.2.1.2.1 (fl_showAt_s hFO1 hf hI.1 (k := k) (by omega) (-1 : Int32)) ?_
        rintro rv hh ⟨rfl, rfl⟩
        show Ex S bo_showOn 32 [some (.ref 7), some (.ref (a)), some (.int (nI (k)))] [] (wI h1 c k (-1 : Int32)) _
        refine Ex_iincN (k) 1 [some (.ref 7), some (.ref (a)), some (.int (nI (k + 1)))] d_bo_showOn_32 rfl rfl rfl rfl ?_
        refine Ex_goto 2 d_bo_showOn_35 rfl ?_
        have hsx : ∀ j, sxL F f L G (k + 1) j = if j = k then shL F f L k else sxL F f L G k j := fun j => by
          unfold sxL
          by_cases q : j = k
          · rw [if_pos q, q, if_pos (by omega)]
          · rw [if_neg q]
            by_cases r : j < k
            · rw [if_pos r, if_pos (by omega)]
            · rw [if_neg r, if_neg (by omega)]
        have hv : (-1 : Int32) = cQ (shL F f L k) := by unfold shL; rw [if_neg hc16]; rfl
        rw [hv]
        exact ih (k + 1) (by omega) _ ⟨FlC1_sh hI.1 k hsx, hI.2.sI rfl⟩
      · rw [decide_eq_true_eq] at hc16
        refine Ex_aload_n d_bo_showOn_19 rfl ?_
        refine Ex_getR (v := .ref 11) d_bo_showOn_20 pf_bo_11 rfl (t_7 hs1) (r_7_4 hs1) ?_
        refine Ex_iload_n d_bo_showOn_23 rfl ?_
        refine Ex_ialoadN (a := k) (y := (cdB F f L k)) d_bo_showOn_24 (t_11 hs1) rfl (by omega) (by decide) (hB1 k (by omega)).1 ?_
        refine Ex_goto 29 d_bo_showOn_25 rfl ?_
        refine Ex_cV2 d_bo_showOn_29 pk_bo_showOn_143 hI.1.2.1.2.1 (fl_showAt_s hFO1 hf hI.1 (k := k) (by omega) (cdB F f L k)) ?_
        rintro rv hh ⟨rfl, rfl⟩
        show Ex S bo_showOn 32 [some (.ref 7), some (.ref (a)), some (.int (nI (k)))] [] (wI h1 c k (cdB F f L k)) _
        refine Ex_iincN (k) 1 [some (.ref 7), some (.ref (a)), some (.int (nI (k + 1)))] d_bo_showOn_32 rfl rfl rfl rfl ?_
        refine Ex_goto 2 d_bo_showOn_35 rfl ?_
        have hsx : ∀ j, sxL F f L G (k + 1) j = if j = k then shL F f L k else sxL F f L G k j := fun j => by
          unfold sxL
          by_cases q : j = k
          · rw [if_pos q, q, if_pos (by omega)]
          · rw [if_neg q]
            by_cases r : j < k
            · rw [if_pos r, if_pos (by omega)]
            · rw [if_neg r, if_neg (by omega)]
        have hv : cdB F f L k = cQ (shL F f L k) := by rw [show shL F f L k = L k from if_pos hc16]; unfold cdB; rw [hc16.2]
        rw [hv]
        exact ih (k + 1) (by omega) _ ⟨FlC1_sh hI.1 k hsx, hI.2.sI rfl⟩
theorem bo_showOn_s {S : mj_S} {h : mj_H} (hs : HT h) {n : Nat} (hn : n ≤ 40) {F : SF} {Y : OW} (hFO : FO n F) {f a b c d4 : Nat} (hf : f < F.1) {L G : Nat → Pl} (hL : okLy n L) (hGo : okLy n G) {x : Nat} (hx6 : x ≤ 600000) (hB : BcC F f L h) (hx : FlC1 (setF F f G x) Y h f a b c d4) : Cl S bo_showOn [.ref 7, .ref (a)] h (fun r h' => r = none ∧ FlC1 (setF F f (shL F f L) x) Y h' f a b c d4 ∧ Fr (fun y _ => y = c) h h') := by
  show Ex S bo_showOn 0 [some (.ref 7), some (.ref (a)), none] [] h _
  refine Ex_iconst d_bo_showOn_0 ic_0 ?_
  refine Ex_istore_n [some (.ref 7), some (.ref (a)), some (.int (0))] d_bo_showOn_1 (Nat.le_of_ble_eq_true rfl) rfl ?_
  refine bo_showOn_L hs hn hFO hf hL hGo hx6 hB (fun h1 hI => ?_) 64 0 rfl h ⟨FlC1_g hx (fun j _ => if_neg (Nat.not_lt_zero _)), Fr.rf⟩
  refine Ex_return d_bo_showOn_38 rfl ?_
  exact ⟨rfl, FlC1_g hI.1 (fun j hj => (if_pos hj).symm), hI.2⟩
