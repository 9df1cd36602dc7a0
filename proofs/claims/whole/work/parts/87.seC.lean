/-! The class: THE SEARCH, its small steps. -/
def chR (s : Nat) (cd : Nat → Nat) (t : Nat) (v : Int32) : Prop := (t = 0 ∧ v = -1) ∨ ∃ c, c < s ∧ cd c + 1 = t ∧ v = nI c
theorem chR_c0 {p : Nat → Prop} {N s : Nat} {cd : Nat → Nat} (hE : EnO p N s cd) {t : Nat} {v : Int32} (h : chR s cd t v) : ∃ c0, c0 ≤ s ∧ v = J ((c0 : Int) - 1) ∧ ∀ c, c < s → (t ≤ cd c ↔ c0 ≤ c) := by
  rcases h with ⟨h1, h2⟩ | ⟨c, h1, h2, h3⟩
  · exact ⟨0, Nat.zero_le _, h2, fun c _ => by omega⟩
  · refine ⟨c + 1, h1, ?_, fun x hx => ⟨fun z => ?_, fun z => ?_⟩⟩
    · rw [h3, nIJ]; congr 1; omega
    · rcases Nat.lt_or_ge c x with w | w
      · exact w
      · exfalso
        have := EnO_le0 hE w h1
        omega
    · have := hE.2.1 c x z hx
      omega
def mlS (e0 : Nat) : Nat := min 30000 (600000 - e0)
def ZF (e0 : Nat) (y : Bool) (a : Nat) (Z : ZS) (h : mj_H) : Prop := (mI h 18 5 = nI (mlS e0 - zs Z) ∧ mI h 18 6 = bI y ∧ mI h 18 7 = nI (zc Z)) ∧ (mI h 18 8 = nI a ∧ mI h 18 9 = nI (ze Z)) ∧ mI h 18 10 = nI (zf Z) ∧ mI h 18 11 = nI (zb Z) ∧ mI h 18 12 = 1
def ZC (K : SK) (F : SF) (f n s : Nat) (cd : Nat → Nat) (e0 : Nat) (y : Bool) (a : Nat) (Y : OW) (A B C D : Nat) (Z : ZS) (h : mj_H) : Prop := BS K F f s cd (zL Z) (zl Z) h ∧ (mI h 7 1 = nI n ∧ ∀ i, i ≤ zd Z → mI h 19 i = nI (zp Z i) ∧ chR s cd (zt Z i) (mI h 20 i)) ∧ ZF e0 y a Z h ∧ FlC1 (setF F f (zG Z) e0) Y h f A B C D ∧ ze Z = e0 + zs Z
def WSr (C a k : Nat) : Prop := WBo a k ∨ a = 19 ∨ a = 20 ∨ (a = 18 ∧ 4 ≤ k ∧ k ≤ 12) ∨ a = C
theorem WSr_st {C : Nat} (hC : 74 ≤ C) : ∀ q ∈ statR, ¬ WSr C q.1 q.2.1 := by
  have h2 : ∀ q ∈ statR, ¬ ((9 ≤ q.1 ∧ q.1 ≤ 17) ∨ (q.1 = 7 ∧ 1 ≤ q.2.1 ∧ q.2.1 ≤ 3) ∨ (q.1 = 8 ∧ q.2.1 = 1) ∨ q.1 = 19 ∨ q.1 = 20 ∨ (q.1 = 18 ∧ 4 ≤ q.2.1 ∧ q.2.1 ≤ 12)) := by decide
  intro q hq
  have h3 := h2 q hq
  have h4 := st_lt q hq
  unfold WSr WBo
  omega
theorem KC_Sr {K : SK} {C : Nat} (hC : 74 ≤ C) {h h' : mj_H} (hs : HT h) (f : Fr (WSr C) h h') (hK : KC K h) : KC K h' := KC_fr hs f (by intro a k; unfold WKC WSr WBo; omega) hK
theorem BS_fr {W : Nat → Nat → Prop} {K : SK} {F : SF} {f s : Nat} {cd : Nat → Nat} {L : Nat → Pl} {l : Nat → Nat} {h h1 : mj_H} (hs : HT h) (fr : Fr W h h1) (hw : ∀ a k, (9 ≤ a ∧ a ≤ 16) ∨ (a = 7 ∧ 2 ≤ k) ∨ (a = 8 ∧ k = 1) → ¬ W a k) (z : BS K F f s cd L l h) : BS K F f s cd L l h1 :=
  ⟨⟨BT_fr hs fr (fun k => hw _ _ (by omega)) (fun k => hw _ _ (by omega)) (hw _ _ (by omega)) (fun k hk => hw _ _ (by omega)) z.1.1, BcC_fr hs fr (fun k => hw _ _ (by omega)) (fun k => hw _ _ (by omega)) z.1.2.1, WnC_fr hs fr (fun k => hw _ _ (by omega)) z.1.2.2.1, LfC_fr hs fr (fun k => hw _ _ (by omega)) z.1.2.2.2.1, LbC_fr hs fr (fun k => hw _ _ (by omega)) z.1.2.2.2.2⟩, FgX_fr hs fr (fun k => hw _ _ (by omega)) z.2⟩
theorem FlC1_lo {W : Nat → Nat → Prop} {F : SF} {Y : OW} {h h' : mj_H} (hs : HT h) (fr : Fr W h h') (hw : ∀ a k, W a k → a < 37) {q a b c d : Nat} (z : FlC1 F Y h q a b c d) : FlC1 F Y h' q a b c d := by
  have w := z.1
  exact FlC1_fr hs fr (fun y => by have := hw _ _ y; omega) (fun k y => by have := hw _ _ y; omega) (fun k y => by have := hw _ _ y; omega) (fun k y => by have := hw _ _ y; omega) (fun k y => by have := hw _ _ y; omega) OwE.rf z
theorem Wlc_Sr {C : Nat} : ∀ a k, Wlc a k → WSr C a k := fun a k z => Or.inl (Wlc_B a k z)
theorem se_costOf_s {S : mj_S} {h : mj_H} (hs : HT h) {K : SK} (hK : KC K h) (hO : KO K) {F : SF} {f s : Nat} {cd : Nat → Nat} (hC : CdC K F f s cd h) {c : Nat} (hc : c < s) : Cl S se_costOf [.ref 18, .int (nI (c))] h (Pu (.int (nI (kC K (cd c / 8)))) h) := by
  show Ex S se_costOf 0 [some (.ref 18), some (.int (nI (c)))] [] h _
  have hk40 := hO.1
  have hcd := (hC.1.1 c hc).1
  refine Ex_aload_n d_se_costOf_0 rfl ?_
  refine Ex_getR (v := .ref 1) d_se_costOf_1 pf_se_24 rfl (t_18 hs) (r_18_1 hs) ?_
  refine Ex_aload_n d_se_costOf_4 rfl ?_
  refine Ex_getR (v := .ref 7) d_se_costOf_5 pf_se_20 rfl (t_18 hs) (r_18_0 hs) ?_
  refine Ex_getR (v := .ref 8) d_se_costOf_8 pf_se_128 rfl (t_7 hs) (r_7_0 hs) ?_
  refine Ex_iload_n d_se_costOf_11 rfl ?_
  refine Ex_pV1 (v := .int (nI (cd c / 8))) d_se_costOf_12 pk_se_costOf_144 (t_8 hs) (ch_kindOf_v hs hO hC hc) ?_
  refine Ex_pV1 (v := .int (nI (kC K (cd c / 8)))) d_se_costOf_15 pk_se_costOf_86 (t_1 hs) (ki_costOf_s hs hK hO (by omega)) ?_
  refine Ex_ireturn d_se_costOf_18 rfl ?_
  exact ⟨rfl, rfl⟩
theorem se_isPassedOver_s {S : mj_S} {h : mj_H} (hs : HT h) {K : SK} (hK : KC K h) (hO : KO K) {F : SF} (hFO : FO K.1 F) {f : Nat} (hf : f < F.1) {n s : Nat} {cd : Nat → Nat} {e0 : Nat} {y : Bool} {a : Nat} {Y : OW} {A B C D : Nat} {Z : ZS} (hZ : ZC K F f n s cd e0 y a Y A B C D Z h) (hd : mI h 18 4 = nI (zd Z)) (hI : zO K F f n Z) (hn64 : n ≤ 64) (ha : a ≤ 1000) {c : Nat} (hc : c < s) : Cl S se_isPassedOver [.ref 18, .int (nI (c))] h (Pu (.int (bI (psB K n y a Z (cd c)))) h) := by
  show Ex S se_isPassedOver 0 [some (.ref 18), some (.int (nI (c))), none] [] h _
  have hk40 := hO.1
  have hcd := (hZ.1.1.1.1.1.1 c hc).1
  have hdn := hI.2.1
  have hcc := zI_b hO hn64 hI.1
  have hbb := hI.1.2.1
  have hkc := (hO.2 (cd c / 8) (by omega)).2.2
  have hmul : (n - zd Z - 1) * a ≤ 64 * 1000 := Nat.mul_le_mul (by omega) ha
  refine Ex_aload_n d_se_isPassedOver_0 rfl ?_
  refine Ex_getR (v := .ref 7) d_se_isPassedOver_1 pf_se_20 rfl (t_18 hs) (r_18_0 hs) ?_
  refine Ex_getIE (y := (nI (n))) d_se_isPassedOver_4 pf_se_96 rfl (t_7 hs) hZ.2.1.1 ?_
  refine Ex_aload_n d_se_isPassedOver_7 rfl ?_
  refine Ex_getIE (y := (nI (zd Z))) d_se_isPassedOver_8 pf_se_37 rfl (t_18 hs) hd ?_
  refine Ex_isubN (n) (zd Z) d_se_isPassedOver_11 rfl rfl (by omega) ?_
  refine Ex_iconst d_se_isPassedOver_12 ic_1 ?_
  refine Ex_isubN (n - (zd Z)) (1) d_se_isPassedOver_13 rfl rfl (by omega) ?_
  refine Ex_istore_n [some (.ref 18), some (.int (nI (c))), some (.int (nI ((n - (zd Z)) - 1)))] d_se_isPassedOver_14 (Nat.le_of_ble_eq_true rfl) rfl ?_
  refine Ex_aload_n d_se_isPassedOver_15 rfl ?_
  refine Ex_getIE (y := (bI (y))) d_se_isPassedOver_16 pf_se_54 rfl (t_18 hs) hZ.2.2.1.1.2.1 ?_
  refine Ex_if_eqB (y) 57 d_se_isPassedOver_19 rfl rfl (fun hc19 => ?_) (fun hc19 => ?_)
  · refine Ex_iconst d_se_isPassedOver_57 ic_0 ?_
    refine Ex_zreturn d_se_isPassedOver_58 rfl (by decide) ?_
    refine ⟨?_, rfl⟩
    rw [show psB K n y a Z (cd c) = false by
      unfold psB
      rw [decide_eq_false_iff_not, Nat.mul_comm]
      first | exact fun z => absurd (z.1.symm.trans hc19) (by decide) | exact fun z => absurd z.2.1 (by omega) | exact fun z => absurd z.2.2 (by omega)]
    rfl
  · refine Ex_aload_n d_se_isPassedOver_22 rfl ?_
    refine Ex_getIE (y := (nI (zf Z))) d_se_isPassedOver_23 pf_se_68 rfl (t_18 hs) hZ.2.2.1.2.2.1 ?_
    refine Ex_if_leN (zf Z) 57 d_se_isPassedOver_26 rfl rfl (by omega) (fun hc26 => ?_) (fun hc26 => ?_)
    · refine Ex_iconst d_se_isPassedOver_57 ic_0 ?_
      refine Ex_zreturn d_se_isPassedOver_58 rfl (by decide) ?_
      refine ⟨?_, rfl⟩
      rw [show psB K n y a Z (cd c) = false by
        unfold psB
        rw [decide_eq_false_iff_not, Nat.mul_comm]
        first | exact fun z => absurd (z.1.symm.trans hc19) (by decide) | exact fun z => absurd z.2.1 (by omega) | exact fun z => absurd z.2.2 (by omega)]
      rfl
    · refine Ex_aload_n d_se_isPassedOver_29 rfl ?_
      refine Ex_getIE (y := (nI (zc Z))) d_se_isPassedOver_30 pf_se_58 rfl (t_18 hs) hZ.2.2.1.1.2.2 ?_
      refine Ex_aload_n d_se_isPassedOver_33 rfl ?_
      refine Ex_iload_n d_se_isPassedOver_34 rfl ?_
      refine Ex_pV1 (v := .int (nI (kC K (cd c / 8)))) d_se_isPassedOver_35 pk_se_isPassedOver_127 (t_18 hs) (se_costOf_s hs hK hO hZ.1.1.1.1 hc) ?_
      refine Ex_iaddN (zc Z) (kC K (cd c / 8)) d_se_isPassedOver_38 rfl rfl ?_
      refine Ex_iload_n d_se_isPassedOver_39 rfl ?_
      refine Ex_aload_n d_se_isPassedOver_40 rfl ?_
      refine Ex_getIE (y := (nI (a))) d_se_isPassedOver_41 pf_se_65 rfl (t_18 hs) hZ.2.2.1.2.1.1 ?_
      refine Ex_imulN ((n - (zd Z)) - 1) (a) d_se_isPassedOver_44 rfl rfl ?_
      refine Ex_iaddN ((zc Z) + (kC K (cd c / 8))) (((n - (zd Z)) - 1) * a) d_se_isPassedOver_45 rfl rfl ?_
      refine Ex_aload_n d_se_isPassedOver_46 rfl ?_
      refine Ex_getIE (y := (nI (zb Z))) d_se_isPassedOver_47 pf_se_71 rfl (t_18 hs) hZ.2.2.1.2.2.2.1 ?_
      refine Ex_icmp_ltN (((zc Z) + (kC K (cd c / 8))) + (((n - (zd Z)) - 1) * a)) (zb Z) 57 d_se_isPassedOver_50 rfl rfl rfl (by omega) (by omega) (fun hc50 => ?_) (fun hc50 => ?_)
      · refine Ex_iconst d_se_isPassedOver_57 ic_0 ?_
        refine Ex_zreturn d_se_isPassedOver_58 rfl (by decide) ?_
        refine ⟨?_, rfl⟩
        rw [show psB K n y a Z (cd c) = false by
          unfold psB
          rw [decide_eq_false_iff_not, Nat.mul_comm]
          first | exact fun z => absurd (z.1.symm.trans hc19) (by decide) | exact fun z => absurd z.2.1 (by omega) | exact fun z => absurd z.2.2 (by omega)]
        rfl
      · refine Ex_iconst d_se_isPassedOver_53 ic_1 ?_
        refine Ex_goto 58 d_se_isPassedOver_54 rfl ?_
        refine Ex_zreturn d_se_isPassedOver_58 rfl (by decide) ?_
        refine ⟨?_, rfl⟩
        rw [show psB K n y a Z (cd c) = true by
          unfold psB
          rw [decide_eq_true_eq, Nat.mul_comm]
          exact ⟨hc19, by omega, by omega⟩]
        rfl
theorem se_nextTry_L {S : mj_S} {h : mj_H} (hs : HT h) {K : SK} (hK : KC K h) (hO : KO K) {F : SF} (hFO : FO K.1 F) {f : Nat} (hf : f < F.1) {n s : Nat} {cd : Nat → Nat} {e0 : Nat} {y : Bool} {a : Nat} {Y : OW} {A B C D : Nat} {Z : ZS} (hZ : ZC K F f n s cd e0 y a Y A B C D Z h) (hd : mI h 18 4 = nI (zd Z)) (hI : zO K F f n Z) (hn64 : n ≤ 64) (ha : a ≤ 1000) : ∀ e c0 i : Nat, c0 + e = 320 → i ≤ c0 → Ex S se_nextTry 22 [some (.ref 18), some (.int (nI (zp Z (zd Z)))), some (.int (J ((c0 : Int) - 1))), some (.int (nI (i)))] [] h (Pu (.int (J (vN (sc (fun c => (gE K s cd (zl Z) (wnS K F f (zL Z) (zp Z (zd Z))) 4) c && !psB K n y a Z (cd c)) e c0 0)))) h) := by
  have hk40 := hO.1
  have hs320 := EnO_le hZ.1.1.1.1.1
  have hok := LyI_ok hI.1.1
  intro e
  induction e using Nat.strongRecOn with
  | _ e ih =>
    intro c0 i hce hi
    have hfa := bo_fittingAfter_s (S := S) hs hZ.1.1.1.2.1 hZ.1.1.2.2.2.2 hI.2.2.1.1 (hZ.1.1.2.2.1 _ hI.2.2.1.1 hI.2.2.1.2.1) (c0 := c0) (by omega)
    have hnf : nfC K s cd (zl Z) (wnS K F f (zL Z) (zp Z (zd Z))) c0 = sc (gE K s cd (zl Z) (wnS K F f (zL Z) (zp Z (zd Z))) 4) e c0 0 := by unfold nfC; rw [show 320 - c0 = e by omega]
    have hn1 := scA1 (g := (gE K s cd (zl Z) (wnS K F f (zL Z) (zp Z (zd Z))) 4)) (p := fun c => !psB K n y a Z (cd c)) e c0
    have hn2 := fun x (hp : (!psB K n y a Z (cd x)) = true) => scA2 (g := (gE K s cd (zl Z) (wnS K F f (zL Z) (zp Z (zd Z))) 4)) (p := fun c => !psB K n y a Z (cd c)) hp e c0
    have hn3 := fun x (hp : (!psB K n y a Z (cd x)) = false) => scA3 (g := (gE K s cd (zl Z) (wnS K F f (zL Z) (zp Z (zd Z))) 4)) (p := fun c => !psB K n y a Z (cd c)) hp e c0
    have hn4 := fun x => sc_b (g := (gE K s cd (zl Z) (wnS K F f (zL Z) (zp Z (zd Z))) 4)) e c0 (n := x)
    rw [hnf] at hfa
    have hgt : s < c0 → sc (fun c => (gE K s cd (zl Z) (wnS K F f (zL Z) (zp Z (zd Z))) 4) c && !psB K n y a Z (cd c)) e c0 0 = none := fun hlt => by
      rcases hq : sc (fun c => (gE K s cd (zl Z) (wnS K F f (zL Z) (zp Z (zd Z))) 4) c && !psB K n y a Z (cd c)) e c0 0 with _ | x
      · rfl
      · exfalso
        obtain ⟨q1, q2, q3, q4⟩ := sc_b e c0 hq
        rw [Bool.and_eq_true, gE_out (by omega)] at q3
        exact absurd q3.1 (by decide)
    generalize sc (gE K s cd (zl Z) (wnS K F f (zL Z) (zp Z (zd Z))) 4) e c0 0 = r at hn1 hn2 hn3 hn4 hfa
    rcases r with _ | x
    · refine Ex_iload_n d_se_nextTry_22 rfl ?_
      refine Ex_aload_n d_se_nextTry_23 rfl ?_
      refine Ex_getR (v := .ref 7) d_se_nextTry_24 pf_se_20 rfl (t_18 hs) (r_18_0 hs) ?_
      refine Ex_getR (v := .ref 8) d_se_nextTry_27 pf_se_128 rfl (t_7 hs) (r_7_0 hs) ?_
      refine Ex_getIE (y := (nI (s))) d_se_nextTry_30 pf_se_132 rfl (t_8 hs) hZ.1.1.1.1.2.1 ?_
      refine Ex_icmp_gtN (i) (s) 67 d_se_nextTry_33 rfl rfl rfl (by omega) (by omega) (fun hc33 => ?_) (fun hc33 => ?_)
      · refine Ex_iconst d_se_nextTry_67 ic_m1 ?_
        refine Ex_ireturn d_se_nextTry_68 rfl ?_
        refine ⟨?_, rfl⟩
        first | (rw [hgt (by omega)]; rfl) | (rw [hn1 rfl]; rfl)
      · refine Ex_aload_n d_se_nextTry_36 rfl ?_
        refine Ex_getR (v := .ref 7) d_se_nextTry_37 pf_se_20 rfl (t_18 hs) (r_18_0 hs) ?_
        refine Ex_iload_n d_se_nextTry_40 rfl ?_
        refine Ex_iload_n d_se_nextTry_41 rfl ?_
        refine Ex_pV2 (v := .int (-1)) d_se_nextTry_42 pk_se_nextTry_137 (t_7 hs) hfa ?_
        refine Ex_istore_n [some (.ref 18), some (.int (nI (zp Z (zd Z)))), some (.int (-1)), some (.int (nI (i)))] d_se_nextTry_45 (Nat.le_of_ble_eq_true rfl) rfl ?_
        refine Ex_iload_n d_se_nextTry_46 rfl ?_
        refine Ex_iconst d_se_nextTry_47 ic_m1 ?_
        refine Ex_icmp_eqZ ((-1)) ((-1)) 59 d_se_nextTry_48 rfl (by decide) (by decide) (by omega) (by omega) (fun hc48 => ?_) (fun hc48 => ?_)
        · refine Ex_iload_n d_se_nextTry_59 rfl ?_
          refine Ex_ireturn d_se_nextTry_60 rfl ?_
          refine ⟨?_, rfl⟩
          first | (rw [hgt (by omega)]; rfl) | (rw [hn1 rfl]; rfl)
        · exact absurd hc48 (by decide)
    · obtain ⟨q1, q2, q3, q4⟩ := hn4 x rfl
      have hxs : x < s := by
        rcases Nat.lt_or_ge x s with w | w
        · exact w
        · rw [gE_out w] at q3; cases q3
      refine Ex_iload_n d_se_nextTry_22 rfl ?_
      refine Ex_aload_n d_se_nextTry_23 rfl ?_
      refine Ex_getR (v := .ref 7) d_se_nextTry_24 pf_se_20 rfl (t_18 hs) (r_18_0 hs) ?_
      refine Ex_getR (v := .ref 8) d_se_nextTry_27 pf_se_128 rfl (t_7 hs) (r_7_0 hs) ?_
      refine Ex_getIE (y := (nI (s))) d_se_nextTry_30 pf_se_132 rfl (t_8 hs) hZ.1.1.1.1.2.1 ?_
      refine Ex_icmp_gtN (i) (s) 67 d_se_nextTry_33 rfl rfl rfl (by omega) (by omega) (fun hc33 => ?_) (fun hc33 => ?_)
      · refine Ex_iconst d_se_nextTry_67 ic_m1 ?_
        refine Ex_ireturn d_se_nextTry_68 rfl ?_
        refine ⟨?_, rfl⟩
        first | (rw [hgt (by omega)]; rfl) | (rw [hn1 rfl]; rfl)
      · refine Ex_aload_n d_se_nextTry_36 rfl ?_
        refine Ex_getR (v := .ref 7) d_se_nextTry_37 pf_se_20 rfl (t_18 hs) (r_18_0 hs) ?_
        refine Ex_iload_n d_se_nextTry_40 rfl ?_
        refine Ex_iload_n d_se_nextTry_41 rfl ?_
        refine Ex_pV2 (v := .int (nI (x))) d_se_nextTry_42 pk_se_nextTry_137 (t_7 hs) (show Cl S bo_fittingAfter [.ref 7, .int (nI (zp Z (zd Z))), .int (J ((c0 : Int) - 1))] h (Pu (.int (nI x)) h) by rw [nIJ x]; exact hfa) ?_
        refine Ex_istore_n [some (.ref 18), some (.int (nI (zp Z (zd Z)))), some (.int (nI (x))), some (.int (nI (i)))] d_se_nextTry_45 (Nat.le_of_ble_eq_true rfl) rfl ?_
        refine Ex_iload_n d_se_nextTry_46 rfl ?_
        refine Ex_iconst d_se_nextTry_47 ic_m1 ?_
        refine Ex_icmp_eqZ (((x : Nat) : Int)) ((-1)) 59 d_se_nextTry_48 rfl (nIJ _) (by decide) (by omega) (by omega) (fun hc48 => ?_) (fun hc48 => ?_)
        · exfalso; omega
        · refine Ex_aload_n d_se_nextTry_51 rfl ?_
          refine Ex_iload_n d_se_nextTry_52 rfl ?_
          refine Ex_pV1 (v := .int (bI (psB K n y a Z (cd x)))) d_se_nextTry_53 pk_se_nextTry_140 (t_18 hs) (se_isPassedOver_s hs hK hO hFO hf hZ hd hI hn64 ha hxs) ?_
          refine Ex_if_neB (psB K n y a Z (cd x)) 61 d_se_nextTry_56 rfl rfl (fun hc56 => ?_) (fun hc56 => ?_)
          · refine Ex_iincN (i) 1 [some (.ref 18), some (.int (nI (zp Z (zd Z)))), some (.int (nI (x))), some (.int (nI (i + 1)))] d_se_nextTry_61 rfl rfl rfl rfl ?_
            refine Ex_goto 22 d_se_nextTry_64 rfl ?_
            rw [hn3 x (by rw [hc56]; rfl) rfl, show c0 + e - (x + 1) = 320 - (x + 1) by omega, show nI x = J (((x + 1 : Nat) : Int) - 1) by rw [nIJ]; congr 1; omega]
            exact ih (320 - (x + 1)) (by omega) (x + 1) (i + 1) (by omega) (by omega)
          · refine Ex_iload_n d_se_nextTry_59 rfl ?_
            refine Ex_ireturn d_se_nextTry_60 rfl ?_
            refine ⟨?_, rfl⟩
            rw [hn2 x (by rw [hc56]; rfl) rfl, show vN (some x) = (x : Int) from rfl, nIJ]
theorem LyI_fS {K : SK} {F : SF} {f n m : Nat} {L : Nat → Pl} {l p t : Nat → Nat} {c : Nat} (h : LyI K F f n m L l p t c) (k : Nat) : l k ≤ fS F f k := by
  have := h.2.2.2.2.1 k
  omega
theorem se_nextTry_s {S : mj_S} {h : mj_H} (hs : HT h) {K : SK} (hK : KC K h) (hO : KO K) {F : SF} (hFO : FO K.1 F) {f : Nat} (hf : f < F.1) {n s : Nat} {cd : Nat → Nat} {e0 : Nat} {y : Bool} {a : Nat} {Y : OW} {A B C D : Nat} {Z : ZS} (hZ : ZC K F f n s cd e0 y a Y A B C D Z h) (hd : mI h 18 4 = nI (zd Z)) (hI : zO K F f n Z) (hn64 : n ≤ 64) (ha : a ≤ 1000) : Cl S se_nextTry [.ref 18] h (fun r h' => h' = h ∧ ∃ oc, r = some (.int (J (vN oc))) ∧ nxS K F f n y a Z = oc.map cd ∧ ∀ c, oc = some c → c < s) := by
  show Ex S se_nextTry 0 [some (.ref 18), none, none, none] [] h _
  have hk40 := hO.1
  have hdn := hI.2.1
  have hs320 := EnO_le hZ.1.1.1.1.1
  obtain ⟨c0, h01, h02, h03⟩ := chR_c0 hZ.1.1.1.1.1 (hZ.2.1.2 _ (Nat.le_refl _)).2
  refine Ex_aload_n d_se_nextTry_0 rfl ?_
  refine Ex_getR (v := .ref 19) d_se_nextTry_1 pf_se_11 rfl (t_18 hs) (r_18_2 hs) ?_
  refine Ex_aload_n d_se_nextTry_4 rfl ?_
  refine Ex_getIE (y := (nI (zd Z))) d_se_nextTry_5 pf_se_37 rfl (t_18 hs) hd ?_
  refine Ex_ialoadN (a := zd Z) (y := (nI (zp Z (zd Z)))) d_se_nextTry_8 (t_19 hs) rfl (by omega) (by decide) (hZ.2.1.2 _ (Nat.le_refl _)).1 ?_
  refine Ex_istore_n [some (.ref 18), some (.int (nI (zp Z (zd Z)))), none, none] d_se_nextTry_9 (Nat.le_of_ble_eq_true rfl) rfl ?_
  refine Ex_aload_n d_se_nextTry_10 rfl ?_
  refine Ex_getR (v := .ref 20) d_se_nextTry_11 pf_se_17 rfl (t_18 hs) (r_18_3 hs) ?_
  refine Ex_aload_n d_se_nextTry_14 rfl ?_
  refine Ex_getIE (y := (nI (zd Z))) d_se_nextTry_15 pf_se_37 rfl (t_18 hs) hd ?_
  refine Ex_ialoadN (a := zd Z) (y := (J ((c0 : Int) - 1))) d_se_nextTry_18 (t_20 hs) rfl (by omega) (by decide) h02 ?_
  refine Ex_istore_n [some (.ref 18), some (.int (nI (zp Z (zd Z)))), some (.int (J ((c0 : Int) - 1))), none] d_se_nextTry_19 (Nat.le_of_ble_eq_true rfl) rfl ?_
  refine Ex_iconst d_se_nextTry_20 ic_0 ?_
  refine Ex_istore_n [some (.ref 18), some (.int (nI (zp Z (zd Z)))), some (.int (J ((c0 : Int) - 1))), some (.int (0))] d_se_nextTry_21 (Nat.le_of_ble_eq_true rfl) rfl ?_
  refine Ex_mono (se_nextTry_L hs hK hO hFO hf hZ hd hI hn64 ha (320 - c0) c0 0 (by omega) (Nat.zero_le _)) ?_
  rintro r h2 ⟨rfl, rfl⟩
  refine ⟨rfl, sc (fun c => (gE K s cd (zl Z) (wnS K F f (zL Z) (zp Z (zd Z))) 4) c && !psB K n y a Z (cd c)) (320 - c0) c0 0, rfl, ?_, fun c hc => ?_⟩
  · refine EnO_sc hZ.1.1.1.1.1 (fun x _ w => ?_) (fun c hc => ?_) (fun c hc => ?_) (by omega) h03
    · rw [Bool.and_eq_true, fitB_iff] at w
      exact ⟨Nat.lt_of_lt_of_le w.1.1 (LyI_fS hI.1.1 _), w.1.2.1⟩
    · show (_ && _) = (_ && _)
      rw [gE_fit hZ.1.1.1.1.1 hc]
    · show (_ && _) = false
      rw [gE_out hc, Bool.false_and]
  · obtain ⟨q1, q2, q3, q4⟩ := sc_b _ _ hc
    rcases Nat.lt_or_ge c s with w | w
    · exact w
    · rw [Bool.and_eq_true, gE_out w] at q3
      exact absurd q3.1 (by decide)
def hNT (K : SK) (Z : ZS) (e0 c x : Nat) (h : mj_H) : mj_H := wI (wI (wI (wI h 18 5 (nI (mlS e0 - zs Z - 1))) 18 9 (nI (ze Z + 1))) 20 (zd Z) (nI c)) 18 7 (nI (zc Z + kC K (x / 8)))
theorem se_noteTry_s {S : mj_S} {h : mj_H} (hs : HT h) {K : SK} (hK : KC K h) (hO : KO K) {F : SF} (hFO : FO K.1 F) {f : Nat} (hf : f < F.1) {n s : Nat} {cd : Nat → Nat} {e0 : Nat} {y : Bool} {a : Nat} {Y : OW} {A B C D : Nat} {Z : ZS} (hZ : ZC K F f n s cd e0 y a Y A B C D Z h) (hd : mI h 18 4 = nI (zd Z)) (hI : zO K F f n Z) (hn64 : n ≤ 64) (hst : 1 ≤ mlS e0 - zs Z) {c : Nat} (hc : c < s) : Cl S se_noteTry [.ref 18, .int (nI (c))] h (fun r h' => r = none ∧ h' = hNT K Z e0 c (cd c) h) := by
  show Ex S se_noteTry 0 [some (.ref 18), some (.int (nI (c)))] [] h _
  have hdn := hI.2.1
  have hml : mlS e0 ≤ 30000 := Nat.min_le_left _ _
  have frN : Fr (fun a k => a = 18 ∨ a = 20) h (wI (wI (wI h 18 5 (nI (mlS e0 - zs Z - 1))) 18 9 (nI (ze Z + 1))) 20 (zd Z) (nI c)) := ((Fr.rf.sI (Or.inl rfl)).sI (Or.inl rfl)).sI (Or.inr rfl)
  have hK2 : KC K (wI (wI (wI h 18 5 (nI (mlS e0 - zs Z - 1))) 18 9 (nI (ze Z + 1))) 20 (zd Z) (nI c)) := KC_fr hs frN (by intro a k; unfold WKC; omega) hK
  have hC2 : CdC K F f s cd (wI (wI (wI h 18 5 (nI (mlS e0 - zs Z - 1))) 18 9 (nI (ze Z + 1))) 20 (zd Z) (nI c)) := (BT_fr hs frN (by omega) (by omega) (by omega) (by omega) hZ.1.1.1).1
  refine Ex_aload_n d_se_noteTry_0 rfl ?_
  refine Ex_dup rfl d_se_noteTry_1 ?_
  refine Ex_getIE (y := (nI (mlS e0 - zs Z))) d_se_noteTry_2 pf_se_51 rfl (t_18 hs) hZ.2.2.1.1.1 ?_
  refine Ex_iconst d_se_noteTry_5 ic_1 ?_
  refine Ex_isubN (mlS e0 - zs Z) (1) d_se_noteTry_6 rfl rfl (by omega) ?_
  refine Ex_putI d_se_noteTry_7 pf_se_51 (Or.inl rfl) (t_18 hs) (Or.inl rfl) ?_
  refine Ex_aload_n d_se_noteTry_10 rfl ?_
  refine Ex_dup rfl d_se_noteTry_11 ?_
  refine Ex_getIE (y := (nI (ze Z))) d_se_noteTry_12 pf_se_42 rfl (t_18 hs) (by rw [mI_oth (Or.inr (by decide))]; exact hZ.2.2.1.2.1.2) ?_
  refine Ex_iconst d_se_noteTry_15 ic_1 ?_
  refine Ex_iaddN (ze Z) (1) d_se_noteTry_16 rfl rfl ?_
  refine Ex_putI d_se_noteTry_17 pf_se_42 (Or.inl rfl) (t_18 hs) (Or.inl rfl) ?_
  refine Ex_aload_n d_se_noteTry_20 rfl ?_
  refine Ex_getR (v := .ref 20) d_se_noteTry_21 pf_se_17 rfl (t_18 hs) (r_18_3 hs) ?_
  refine Ex_aload_n d_se_noteTry_24 rfl ?_
  refine Ex_getIE (y := (nI (zd Z))) d_se_noteTry_25 pf_se_37 rfl (t_18 hs) (by rw [mI_oth (Or.inr (by decide)), mI_oth (Or.inr (by decide))]; exact hd) ?_
  refine Ex_iload_n d_se_noteTry_28 rfl ?_
  refine Ex_iastoreN (a := zd Z) d_se_noteTry_29 (t_20 hs) rfl (by omega) (by decide) ?_
  refine Ex_aload_n d_se_noteTry_30 rfl ?_
  refine Ex_dup rfl d_se_noteTry_31 ?_
  refine Ex_getIE (y := (nI (zc Z))) d_se_noteTry_32 pf_se_58 rfl (t_18 hs) (by rw [mI_oth (Or.inl (by decide)), mI_oth (Or.inr (by decide)), mI_oth (Or.inr (by decide))]; exact hZ.2.2.1.1.2.2) ?_
  refine Ex_aload_n d_se_noteTry_35 rfl ?_
  refine Ex_iload_n d_se_noteTry_36 rfl ?_
  refine Ex_pV1 (v := .int (nI (kC K (cd c / 8)))) d_se_noteTry_37 pk_se_noteTry_127 (t_18 hs) (se_costOf_s (show HT (wI (wI (wI h 18 5 (nI (mlS e0 - zs Z - 1))) 18 9 (nI (ze Z + 1))) 20 (zd Z) (nI c)) from hs) hK2 hO hC2 hc) ?_
  refine Ex_iaddN (zc Z) (kC K (cd c / 8)) d_se_noteTry_40 rfl rfl ?_
  refine Ex_putI d_se_noteTry_41 pf_se_58 (Or.inl rfl) (t_18 hs) (Or.inl rfl) ?_
  refine Ex_return d_se_noteTry_44 rfl ?_
  exact ⟨rfl, rfl⟩
theorem se_openDepth_s {S : mj_S} {h : mj_H} (hs : HT h) {K : SK} (hO : KO K) {F : SF} {f s : Nat} {cd : Nat → Nat} {L : Nat → Pl} (hL : okLy K.1 L) {l : Nat → Nat} (hl : ∀ k, l k ≤ fS F f k) (hZ : BS K F f s cd L l h) {v b : Nat} (hv : v < 64) (hb : npS K F f L l = some b) : Cl S se_openDepth [.ref 18, .int (nI (v))] h (fun r h' => r = none ∧ h' = wI (wI (wI h 18 4 (nI v)) 19 v (nI b)) 20 v (-1)) := by
  show Ex S se_openDepth 0 [some (.ref 18), some (.int (nI (v)))] [] h _
  have hZ1 : BS K F f s cd L l (wI h 18 4 (nI v)) := BS_fr hs (W := fun a k => a = 18) (Fr.rf.sI rfl) (by omega) hZ
  refine Ex_iload_n d_se_openDepth_0 rfl ?_
  refine Ex_if_ltN (v) 35 d_se_openDepth_1 rfl rfl (by omega) (fun hc1 => ?_) (fun hc1 => ?_)
  · exfalso; omega
  · refine Ex_iload_n d_se_openDepth_4 rfl ?_
    refine Ex_bipush d_se_openDepth_5 bp_64 ?_
    refine Ex_icmp_geN (v) (64) 35 d_se_openDepth_7 rfl rfl rfl (by omega) (by omega) (fun hc7 => ?_) (fun hc7 => ?_)
    · exfalso; omega
    · refine Ex_aload_n d_se_openDepth_10 rfl ?_
      refine Ex_iload_n d_se_openDepth_11 rfl ?_
      refine Ex_putI d_se_openDepth_12 pf_se_37 (Or.inl rfl) (t_18 hs) (Or.inl rfl) ?_
      refine Ex_aload_n d_se_openDepth_15 rfl ?_
      refine Ex_getR (v := .ref 19) d_se_openDepth_16 pf_se_11 rfl (t_18 hs) (r_18_2 hs) ?_
      refine Ex_iload_n d_se_openDepth_19 rfl ?_
      refine Ex_aload_n d_se_openDepth_20 rfl ?_
      refine Ex_getR (v := .ref 7) d_se_openDepth_21 pf_se_20 rfl (t_18 hs) (r_18_0 hs) ?_
      refine Ex_pV0 (v := .int (nI (b))) d_se_openDepth_24 pk_se_openDepth_121 (t_7 hs) (show Cl S bo_scarcestPlace [.ref 7] (wI h 18 4 (nI v)) (Pu (.int (nI b)) (wI h 18 4 (nI v))) by have z := bo_scarcestPlace_s (S := S) (show HT (wI h 18 4 (nI v)) from hs) hO hL hl hZ1; rw [hb, show vN (some b) = (b : Int) from rfl, ← nIJ] at z; exact z) ?_
      refine Ex_iastoreN (a := v) d_se_openDepth_27 (t_19 hs) rfl (by omega) (by decide) ?_
      refine Ex_aload_n d_se_openDepth_28 rfl ?_
      refine Ex_getR (v := .ref 20) d_se_openDepth_29 pf_se_17 rfl (t_18 hs) (r_18_3 hs) ?_
      refine Ex_iload_n d_se_openDepth_32 rfl ?_
      refine Ex_iconst d_se_openDepth_33 ic_m1 ?_
      refine Ex_iastoreN (a := v) d_se_openDepth_34 (t_20 hs) rfl (by omega) (by decide) ?_
      refine Ex_return d_se_openDepth_35 rfl ?_
      exact ⟨rfl, rfl⟩
