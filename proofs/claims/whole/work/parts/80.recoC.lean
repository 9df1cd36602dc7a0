/-! The class: how many fit. -/
def WnC (F : SF) (f : Nat) (wn : Nat → Nat → Nat) (h : mj_H) : Prop := ∀ k, k < 64 → inF F f k → ∀ e, e < 4 → mI h 13 (k * 4 + e) = nI (wn k e) ∧ wn k e < 17
def LfC (l : Nat → Nat) (h : mj_H) : Prop := ∀ k, k < 40 → mI h 15 k = nI (l k)
def LbC (s : Nat) (cd l : Nat → Nat) (h : mj_H) : Prop := ∀ w, w < 5 → mL h 16 w = wdL (bL s cd l) w
def BT (K : SK) (F : SF) (f s : Nat) (cd : Nat → Nat) (h : mj_H) : Prop := CdC K F f s cd h ∧ BiC K s cd h ∧ BrC F f h
def BX (K : SK) (F : SF) (f s : Nat) (cd : Nat → Nat) (L : Nat → Pl) (l : Nat → Nat) (wn : Nat → Nat → Nat) (h : mj_H) : Prop := BT K F f s cd h ∧ BcC F f L h ∧ WnC F f wn h ∧ LfC l h ∧ LbC s cd l h
def FgX (K : SK) (F : SF) (f s : Nat) (cd : Nat → Nat) (L : Nat → Pl) (l : Nat → Nat) (wn : Nat → Nat → Nat) (h : mj_H) : Prop := ∀ k, k < 64 → wtB F f L k = true → mI h 14 k = nI (cnB (gE K s cd l (wn k) 4) 0 320)
theorem BT_fr {W : Nat → Nat → Prop} {K : SK} {F : SF} {f s : Nat} {cd : Nat → Nat} {h h1 : mj_H} (hs : HT h) (fr : Fr W h h1) (w1 : ∀ k, ¬ W 9 k) (w2 : ∀ k, ¬ W 10 k) (w3 : ¬ W 8 1) (w4 : ∀ k, 2 ≤ k → ¬ W 7 k) (z : BT K F f s cd h) : BT K F f s cd h1 := by
  have hn := HT_n hs
  obtain ⟨⟨z1, z2, z3⟩, z4, z5, z6⟩ := z
  refine ⟨⟨z1, ?_, fun c hc => ?_⟩, fun e c w he hc hw => ?_, ?_, ?_⟩
  · rw [fr.I (by omega) w3]; exact z2
  · rw [fr.I (by omega) (w1 _)]; exact z3 c hc
  · rw [fr.L (by omega) (w2 _)]; exact z4 e c w he hc hw
  · rw [fr.I (by omega) (w4 _ (by decide))]; exact z5
  · rw [fr.I (by omega) (w4 _ (by decide))]; exact z6
theorem BcC_fr {W : Nat → Nat → Prop} {F : SF} {f : Nat} {L : Nat → Pl} {h h1 : mj_H} (hs : HT h) (fr : Fr W h h1) (w1 : ∀ k, ¬ W 11 k) (w2 : ∀ k, ¬ W 12 k) (z : BcC F f L h) : BcC F f L h1 := by
  have hn := HT_n hs
  intro k hk
  rw [fr.I (by omega) (w1 _), fr.I (by omega) (w2 _)]
  exact z k hk
theorem WnC_fr {W : Nat → Nat → Prop} {F : SF} {f : Nat} {wn : Nat → Nat → Nat} {h h1 : mj_H} (hs : HT h) (fr : Fr W h h1) (w1 : ∀ k, ¬ W 13 k) (z : WnC F f wn h) : WnC F f wn h1 := by
  have hn := HT_n hs
  intro k hk hi e he
  rw [fr.I (by omega) (w1 _)]
  exact z k hk hi e he
theorem LfC_fr {W : Nat → Nat → Prop} {l : Nat → Nat} {h h1 : mj_H} (hs : HT h) (fr : Fr W h h1) (w1 : ∀ k, ¬ W 15 k) (z : LfC l h) : LfC l h1 := by
  have hn := HT_n hs
  intro k hk
  rw [fr.I (by omega) (w1 _)]
  exact z k hk
theorem LbC_fr {W : Nat → Nat → Prop} {s : Nat} {cd l : Nat → Nat} {h h1 : mj_H} (hs : HT h) (fr : Fr W h h1) (w1 : ∀ k, ¬ W 16 k) (z : LbC s cd l h) : LbC s cd l h1 := by
  have hn := HT_n hs
  intro k hk
  rw [fr.L (by omega) (w1 _)]
  exact z k hk
def W14 (a k : Nat) : Prop := a = 14
theorem W14_st : ∀ q ∈ statR, ¬ W14 q.1 q.2.1 := by
  have h2 : ∀ q ∈ statR, ¬ (q.1 = 14) := by decide
  exact h2
theorem W14_B : ∀ a k, W14 a k → WBo a k := by intro a k; unfold W14 WBo; omega
theorem BX_14 {K : SK} {F : SF} {f s : Nat} {cd : Nat → Nat} {L : Nat → Pl} {l : Nat → Nat} {wn : Nat → Nat → Nat} {h h1 : mj_H} (hs : HT h) (fr : Fr W14 h h1) (z : BX K F f s cd L l wn h) : BX K F f s cd L l wn h1 := by
  refine ⟨BT_fr hs fr ?_ ?_ ?_ ?_ z.1, BcC_fr hs fr ?_ ?_ z.2.1, WnC_fr hs fr ?_ z.2.2.1, LfC_fr hs fr ?_ z.2.2.2.1, LbC_fr hs fr ?_ z.2.2.2.2⟩ <;> unfold W14 <;> omega
/-- which choices have, at the first e sides, the colours that are wanted -/
def gM (K : SK) (s : Nat) (cd : Nat → Nat) (wn : Nat → Nat) : Nat → Nat → Bool
  | 0 => fun _ => true
  | e + 1 => fun c => gM K s cd wn e c && bM K s cd e (wn e) c
theorem gM_gE {K : SK} {s : Nat} {cd l wn : Nat → Nat} {c : Nat} : ∀ n, (bL s cd l c && gM K s cd wn n c) = gE K s cd l wn n c
  | 0 => Bool.and_true _
  | n + 1 => by
    show (bL s cd l c && (gM K s cd wn n c && bM K s cd n (wn n) c)) = (gE K s cd l wn n c && bM K s cd n (wn n) c)
    rw [← gM_gE n, Bool.and_assoc]
theorem wdL_gM {K : SK} {s : Nat} {cd l wn : Nat → Nat} {w : Nat} : wdL (bL s cd l) w &&& wdL (gM K s cd wn 4) w = wdL (gE K s cd l wn 4) w := by
  rw [wdL_and]
  exact wdL_c (fun i _ => gM_gE 4)
theorem m1_kb : (-1 : Int64) = nL (kbits (fun _ => true) 64) := by decide +kernel
theorem wdL_1 {K : SK} {s : Nat} {cd wn : Nat → Nat} {w : Nat} : (-1 : Int64) = wdL (gM K s cd wn 0) w := m1_kb
theorem ch_fitting_L {S : mj_S} {h : mj_H} (hs : HT h) {K : SK} {s : Nat} {cd : Nat → Nat} (hB : BiC K s cd h) {k : Nat} (hk : k < 64) {wn : Nat → Nat} (hr : ∀ e, e < 4 → mI h 13 (k * 4 + e) = nI (wn e) ∧ wn e < 17) {w : Nat} (hw : w < 5) : ∀ d e : Nat, e + d = 4 → Ex S ch_fitting 22 [some (.ref 8), some (.ref 13), some (.int (nI (k * 4))), some (.int (nI (w))), some (.long (wdL (gM K s cd wn e) w)), none, some (.int (nI (e))), none] [] h (Pu (.long (wdL (gM K s cd wn 4) w)) h) := by
  intro d
  induction d with
  | zero =>
    intro e hkk
    obtain rfl : 4 = e := by omega
    refine Ex_iload d_ch_fitting_22 rfl ?_
    refine Ex_iconst d_ch_fitting_24 ic_4 ?_
    refine Ex_icmp_geN (4) (4) 83 d_ch_fitting_25 rfl rfl rfl (by omega) (by omega) (fun hc25 => ?_) (fun hc25 => ?_)
    · refine Ex_lload d_ch_fitting_83 rfl ?_
      refine Ex_lreturn d_ch_fitting_85 rfl ?_
      exact ⟨rfl, rfl⟩
    · exfalso; omega
  | succ d ih =>
    intro e hkk
    have h17 := (hr e (by omega)).2
    refine Ex_iload d_ch_fitting_22 rfl ?_
    refine Ex_iconst d_ch_fitting_24 ic_4 ?_
    refine Ex_icmp_geN (e) (4) 83 d_ch_fitting_25 rfl rfl rfl (by omega) (by omega) (fun hc25 => ?_) (fun hc25 => ?_)
    · exfalso; omega
    · refine Ex_iload d_ch_fitting_28 rfl ?_
      refine Ex_bipush d_ch_fitting_30 bp_17 ?_
      refine Ex_imulN (e) (17) d_ch_fitting_32 rfl rfl ?_
      refine Ex_aload_n d_ch_fitting_33 rfl ?_
      refine Ex_iload_n d_ch_fitting_34 rfl ?_
      refine Ex_iload d_ch_fitting_35 rfl ?_
      refine Ex_iaddN (k * 4) (e) d_ch_fitting_37 rfl rfl ?_
      refine Ex_ialoadN (a := (k * 4) + e) (y := (nI (wn e))) d_ch_fitting_38 (t_13 hs) rfl (by omega) (by decide) (hr e (by omega)).1 ?_
      refine Ex_iaddN (e * 17) (wn e) d_ch_fitting_39 rfl rfl ?_
      refine Ex_iconst d_ch_fitting_40 ic_5 ?_
      refine Ex_imulN ((e * 17) + (wn e)) (5) d_ch_fitting_41 rfl rfl ?_
      refine Ex_iload_n d_ch_fitting_42 rfl ?_
      refine Ex_iaddN (((e * 17) + (wn e)) * 5) (w) d_ch_fitting_43 rfl rfl ?_
      refine Ex_istore [some (.ref 8), some (.ref 13), some (.int (nI (k * 4))), some (.int (nI (w))), some (.long (wdL (gM K s cd wn e) w)), none, some (.int (nI (e))), some (.int (nI ((((e * 17) + (wn e)) * 5) + w)))] d_ch_fitting_44 (Nat.le_of_ble_eq_true rfl) rfl ?_
      refine Ex_lload d_ch_fitting_46 rfl ?_
      refine Ex_iload d_ch_fitting_48 rfl ?_
      refine Ex_if_ltN ((((e * 17) + (wn e)) * 5) + w) 73 d_ch_fitting_50 rfl rfl (by omega) (fun hc50 => ?_) (fun hc50 => ?_)
      · exfalso; omega
      · refine Ex_iload d_ch_fitting_53 rfl ?_
        refine Ex_aload_n d_ch_fitting_55 rfl ?_
        refine Ex_getR (v := .ref 10) d_ch_fitting_56 pf_ch_17 rfl (t_8 hs) (r_8_3 hs) ?_
        refine Ex_arraylength d_ch_fitting_59 (t_10 hs) (by decide) ?_
        refine Ex_icmp_geN ((((e * 17) + (wn e)) * 5) + w) (340) 73 d_ch_fitting_60 rfl rfl rfl (by omega) (by omega) (fun hc60 => ?_) (fun hc60 => ?_)
        · exfalso; omega
        · refine Ex_aload_n d_ch_fitting_63 rfl ?_
          refine Ex_getR (v := .ref 10) d_ch_fitting_64 pf_ch_17 rfl (t_8 hs) (r_8_3 hs) ?_
          refine Ex_iload d_ch_fitting_67 rfl ?_
          refine Ex_laloadN (a := (((e * 17) + (wn e)) * 5) + w) (w := (wdL (bM K s cd e (wn e)) w)) d_ch_fitting_69 (t_10 hs) rfl (by omega) (by decide) (hB e (wn e) w (by omega) h17 hw) ?_
          refine Ex_goto 74 d_ch_fitting_70 rfl ?_
          refine Ex_land d_ch_fitting_74 ?_
          rw [show ((wdL (gM K s cd wn e) w) &&& (wdL (bM K s cd e (wn e)) w) : Int64) = wdL (gM K s cd wn (e + 1)) w from (wdL_and _ _ _)]
          refine Ex_lstore [some (.ref 8), some (.ref 13), some (.int (nI (k * 4))), some (.int (nI (w))), some (.long (wdL (gM K s cd wn (e + 1)) w)), none, some (.int (nI (e))), some (.int (nI ((((e * 17) + (wn e)) * 5) + w)))] d_ch_fitting_75 (Nat.le_of_ble_eq_true rfl) rfl ?_
          refine Ex_iincN (e) 1 [some (.ref 8), some (.ref 13), some (.int (nI (k * 4))), some (.int (nI (w))), some (.long (wdL (gM K s cd wn (e + 1)) w)), none, some (.int (nI (e + 1))), some (.int (nI ((((e * 17) + (wn e)) * 5) + w)))] d_ch_fitting_77 rfl rfl rfl rfl ?_
          refine Ex_goto 22 d_ch_fitting_80 rfl ?_
          refine Ex_forget (ls' := [some (.ref 8), some (.ref 13), some (.int (nI (k * 4))), some (.int (nI (w))), some (.long (wdL (gM K s cd wn (e + 1)) w)), none, some (.int (nI (e + 1))), none]) (sub_s (sub_s (sub_s (sub_s (sub_s (sub_n (sub_s (sub_n sub_0)))))))) ?_
          exact ih (e + 1) (by omega)
theorem ch_fitting_s {S : mj_S} {h : mj_H} (hs : HT h) {K : SK} {s : Nat} {cd : Nat → Nat} (hB : BiC K s cd h) {k : Nat} (hk : k < 64) {wn : Nat → Nat} (hr : ∀ e, e < 4 → mI h 13 (k * 4 + e) = nI (wn e) ∧ wn e < 17) {w : Nat} (hw : w < 5) : Cl S ch_fitting [.ref 8, .ref 13, .int (nI (k * 4)), .int (nI (w))] h (Pu (.long (wdL (gM K s cd wn 4) w)) h) := by
  show Ex S ch_fitting 0 [some (.ref 8), some (.ref 13), some (.int (nI (k * 4))), some (.int (nI (w))), none, none, none, none] [] h _
  refine Ex_iload_n d_ch_fitting_0 rfl ?_
  refine Ex_if_ltN (k * 4) 12 d_ch_fitting_1 rfl rfl (by omega) (fun hc1 => ?_) (fun hc1 => ?_)
  · exfalso; omega
  · refine Ex_iload_n d_ch_fitting_4 rfl ?_
    refine Ex_aload_n d_ch_fitting_5 rfl ?_
    refine Ex_arraylength d_ch_fitting_6 (t_13 hs) (by decide) ?_
    refine Ex_iconst d_ch_fitting_7 ic_4 ?_
    refine Ex_isubN (256) (4) d_ch_fitting_8 rfl rfl (by omega) ?_
    refine Ex_icmp_leN (k * 4) (256 - 4) 14 d_ch_fitting_9 rfl rfl rfl (by omega) (by omega) (fun hc9 => ?_) (fun hc9 => ?_)
    · refine Ex_ldc2_w pi_ch_63 d_ch_fitting_14 ?_
      rw [show (-1 : Int64) = wdL (gM K s cd wn 0) w from wdL_1]
      refine Ex_lstore [some (.ref 8), some (.ref 13), some (.int (nI (k * 4))), some (.int (nI (w))), some (.long (wdL (gM K s cd wn 0) w)), none, none, none] d_ch_fitting_17 (Nat.le_of_ble_eq_true rfl) rfl ?_
      refine Ex_iconst d_ch_fitting_19 ic_0 ?_
      refine Ex_istore [some (.ref 8), some (.ref 13), some (.int (nI (k * 4))), some (.int (nI (w))), some (.long (wdL (gM K s cd wn 0) w)), none, some (.int (0)), none] d_ch_fitting_20 (Nat.le_of_ble_eq_true rfl) rfl ?_
      exact ch_fitting_L hs hB hk hr hw 4 0 rfl
    · exfalso; omega
theorem bo_recount_L {S : mj_S} {Q : Option Value → mj_H → Prop} {h : mj_H} (hs : HT h) {K : SK} (hO : KO K) {F : SF} {f s : Nat} {cd : Nat → Nat} {L : Nat → Pl} (hL : okLy K.1 L) {l : Nat → Nat} {wn : Nat → Nat → Nat} (hX : BX K F f s cd L l wn h) {k : Nat} (hk : k < 64) (hin : inF F f k)
    (kx : Ex S bo_recount 51 [some (.ref 7), some (.int (nI (k))), some (.int (nI (cnB (gE K s cd l (wn k) 4) 0 (64 * 5)))), some (.int (nI (5)))] [] h Q) : ∀ d w : Nat, w + d = 5 → Ex S bo_recount 12 [some (.ref 7), some (.int (nI (k))), some (.int (nI (cnB (gE K s cd l (wn k) 4) 0 (64 * w)))), some (.int (nI (w)))] [] h Q := by
  intro d
  induction d with
  | zero =>
    intro w hkk
    obtain rfl : 5 = w := by omega
    refine Ex_iload_n d_bo_recount_12 rfl ?_
    refine Ex_iconst d_bo_recount_13 ic_5 ?_
    refine Ex_icmp_geN (5) (5) 51 d_bo_recount_14 rfl rfl rfl (by omega) (by omega) (fun hc14 => ?_) (fun hc14 => ?_)
    · exact kx
    · exfalso; omega
  | succ d ih =>
    intro w hkk
    refine Ex_iload_n d_bo_recount_12 rfl ?_
    refine Ex_iconst d_bo_recount_13 ic_5 ?_
    refine Ex_icmp_geN (w) (5) 51 d_bo_recount_14 rfl rfl rfl (by omega) (by omega) (fun hc14 => ?_) (fun hc14 => ?_)
    · exfalso; omega
    · refine Ex_iload_n d_bo_recount_17 rfl ?_
      refine Ex_aload_n d_bo_recount_18 rfl ?_
      refine Ex_getR (v := .ref 16) d_bo_recount_19 pf_bo_34 rfl (t_7 hs) (r_7_9 hs) ?_
      refine Ex_iload_n d_bo_recount_22 rfl ?_
      refine Ex_laloadN (a := w) (w := (wdL (bL s cd l) w)) d_bo_recount_23 (t_16 hs) rfl (by omega) (by decide) (hX.2.2.2.2 w (by omega)) ?_
      refine Ex_aload_n d_bo_recount_24 rfl ?_
      refine Ex_getR (v := .ref 8) d_bo_recount_25 pf_bo_41 rfl (t_7 hs) (r_7_0 hs) ?_
      refine Ex_aload_n d_bo_recount_28 rfl ?_
      refine Ex_getR (v := .ref 13) d_bo_recount_29 pf_bo_21 rfl (t_7 hs) (r_7_6 hs) ?_
      refine Ex_iload_n d_bo_recount_32 rfl ?_
      refine Ex_iconst d_bo_recount_33 ic_4 ?_
      refine Ex_imulN (k) (4) d_bo_recount_34 rfl rfl ?_
      refine Ex_iload_n d_bo_recount_35 rfl ?_
      refine Ex_pV3 (v := .long (wdL (gM K s cd (wn k) 4) w)) d_bo_recount_36 pk_bo_recount_96 (t_8 hs) (ch_fitting_s hs hX.1.2.1 hk (hX.2.2.1 k hk hin) (by omega)) ?_
      refine Ex_land d_bo_recount_39 ?_
      rw [show ((wdL (bL s cd l) w) &&& (wdL (gM K s cd (wn k) 4) w) : Int64) = wdL (gE K s cd l (wn k) 4) w from wdL_gM]
      refine Ex_pS1 (v := .int (nI (cnB (gE K s cd l (wn k) 4) (64 * w) 64))) d_bo_recount_40 pk_bo_recount_99 (wdL_bc _ _) ?_
      refine Ex_iaddN (cnB (gE K s cd l (wn k) 4) 0 (64 * w)) (cnB (gE K s cd l (wn k) 4) (64 * w) 64) d_bo_recount_43 rfl rfl ?_
      rw [show ((nI ((cnB (gE K s cd l (wn k) 4) 0 (64 * w)) + (cnB (gE K s cd l (wn k) 4) (64 * w) 64))) : Int32) = (nI (cnB (gE K s cd l (wn k) 4) 0 (64 * (w + 1)))) from (by rw [show 64 * (w + 1) = 64 * w + 64 from rfl, cnB_a, Nat.zero_add])]
      refine Ex_istore_n [some (.ref 7), some (.int (nI (k))), some (.int (nI (cnB (gE K s cd l (wn k) 4) 0 (64 * (w + 1))))), some (.int (nI (w)))] d_bo_recount_44 (Nat.le_of_ble_eq_true rfl) rfl ?_
      refine Ex_iincN (w) 1 [some (.ref 7), some (.int (nI (k))), some (.int (nI (cnB (gE K s cd l (wn k) 4) 0 (64 * (w + 1))))), some (.int (nI (w + 1)))] d_bo_recount_45 rfl rfl rfl rfl ?_
      refine Ex_goto 12 d_bo_recount_48 rfl ?_
      exact ih (w + 1) (by omega)
theorem bo_recount_s {S : mj_S} {h : mj_H} (hs : HT h) {K : SK} (hO : KO K) {F : SF} {f s : Nat} {cd : Nat → Nat} {L : Nat → Pl} (hL : okLy K.1 L) {l : Nat → Nat} {wn : Nat → Nat → Nat} (hX : BX K F f s cd L l wn h) {k : Nat} (hk : k < 64) : Cl S bo_recount [.ref 7, .int (nI (k))] h (fun r h' => r = none ∧ Fr (fun a j => a = 14 ∧ j = k) h h' ∧ (wtB F f L k = true → mI h' 14 k = nI (cnB (gE K s cd l (wn k) 4) 0 320))) := by
  show Ex S bo_recount 0 [some (.ref 7), some (.int (nI (k))), none, none] [] h _
  refine Ex_aload_n d_bo_recount_0 rfl ?_
  refine Ex_iload_n d_bo_recount_1 rfl ?_
  refine Ex_pV1 (v := .int (bI (wtB F f L k))) d_bo_recount_2 pk_bo_recount_93 (t_7 hs) (bo_isWaiting_s hs hO.1 hL hX.2.1 hk) ?_
  refine Ex_if_eqB (wtB F f L k) 58 d_bo_recount_5 rfl rfl (fun hc5 => ?_) (fun hc5 => ?_)
  · refine Ex_return d_bo_recount_58 rfl ?_
    exact ⟨rfl, Fr.rf, fun z => absurd (z.symm.trans hc5) (by decide)⟩
  · refine Ex_iconst d_bo_recount_8 ic_0 ?_
    refine Ex_istore_n [some (.ref 7), some (.int (nI (k))), some (.int (0)), none] d_bo_recount_9 (Nat.le_of_ble_eq_true rfl) rfl ?_
    refine Ex_iconst d_bo_recount_10 ic_0 ?_
    refine Ex_istore_n [some (.ref 7), some (.int (nI (k))), some (.int (0)), some (.int (0))] d_bo_recount_11 (Nat.le_of_ble_eq_true rfl) rfl ?_
    have hin : inF F f k := by have z := hc5; unfold wtB at z; rw [decide_eq_true_eq] at z; exact z.1.1
    refine bo_recount_L hs hO hL hX hk hin ?_ 5 0 rfl
    show Ex S bo_recount 51 [some (.ref 7), some (.int (nI (k))), some (.int (nI (cnB (gE K s cd l (wn k) 4) 0 320))), some (.int (nI (5)))] [] h _
    refine Ex_aload_n d_bo_recount_51 rfl ?_
    refine Ex_getR (v := .ref 14) d_bo_recount_52 pf_bo_24 rfl (t_7 hs) (r_7_7 hs) ?_
    refine Ex_iload_n d_bo_recount_55 rfl ?_
    refine Ex_iload_n d_bo_recount_56 rfl ?_
    refine Ex_iastoreN (a := k) d_bo_recount_57 (t_14 hs) rfl (by omega) (by decide) ?_
    refine Ex_return d_bo_recount_58 rfl ?_
    exact ⟨rfl, Fr.rf.sI (W := fun a j => a = 14 ∧ j = k) ⟨rfl, rfl⟩, fun _ => mI_self _ _ _ _⟩
theorem bo_recountAll_L {S : mj_S} {Q : Option Value → mj_H → Prop} {h : mj_H} (hs : HT h) {K : SK} (hO : KO K) {F : SF} {f s : Nat} {cd : Nat → Nat} {L : Nat → Pl} (hL : okLy K.1 L) {l : Nat → Nat} {wn : Nat → Nat → Nat} (hX : BX K F f s cd L l wn h)
    (kx : ∀ h1 : mj_H, (Fr W14 h h1 ∧ ∀ j, j < 64 → wtB F f L j = true → mI h1 14 j = nI (cnB (gE K s cd l (wn j) 4) 0 320)) → Ex S bo_recountAll 19 [some (.ref 7), some (.int (nI (64)))] [] h1 Q) : ∀ d k : Nat, k + d = 64 → ∀ h1 : mj_H, (Fr W14 h h1 ∧ ∀ j, j < k → wtB F f L j = true → mI h1 14 j = nI (cnB (gE K s cd l (wn j) 4) 0 320)) → Ex S bo_recountAll 2 [some (.ref 7), some (.int (nI (k)))] [] h1 Q := by
  intro d
  induction d with
  | zero =>
    intro k hkk h1 hI
    obtain rfl : 64 = k := by omega
    have hn4 := HT_n hs
    have hs1 := hI.1.ht hs W14_st
    have hn5 := HT_n hs1
    refine Ex_iload_n d_bo_recountAll_2 rfl ?_
    refine Ex_bipush d_bo_recountAll_3 bp_64 ?_
    refine Ex_icmp_geN (64) (64) 19 d_bo_recountAll_5 rfl rfl rfl (by omega) (by omega) (fun hc5 => ?_) (fun hc5 => ?_)
    · exact kx h1 hI
    · exfalso; omega
  | succ d ih =>
    intro k hkk h1 hI
    have hn4 := HT_n hs
    have hs1 := hI.1.ht hs W14_st
    have hn5 := HT_n hs1
    refine Ex_iload_n d_bo_recountAll_2 rfl ?_
    refine Ex_bipush d_bo_recountAll_3 bp_64 ?_
    refine Ex_icmp_geN (k) (64) 19 d_bo_recountAll_5 rfl rfl rfl (by omega) (by omega) (fun hc5 => ?_) (fun hc5 => ?_)
    · exfalso; omega
    · refine Ex_aload_n d_bo_recountAll_8 rfl ?_
      refine Ex_iload_n d_bo_recountAll_9 rfl ?_
      refine Ex_cV1 d_bo_recountAll_10 pk_bo_recountAll_105 (t_7 hs1) (bo_recount_s hs1 hO hL (BX_14 hs hI.1 hX) (k := k) (by omega)) ?_
      rintro rv h2 ⟨rfl, w1, w2⟩
      show Ex S bo_recountAll 13 [some (.ref 7), some (.int (nI (k)))] [] h2 _
      refine Ex_iincN (k) 1 [some (.ref 7), some (.int (nI (k + 1)))] d_bo_recountAll_13 rfl rfl rfl rfl ?_
      refine Ex_goto 2 d_bo_recountAll_16 rfl ?_
      refine ih (k + 1) (by omega) _ ⟨hI.1.tr (w1.mono (fun a j z => z.1)), fun j hj hw => ?_⟩
      by_cases q : j = k
      · subst q; exact w2 hw
      · rw [w1.I (by omega) (fun z => q z.2)]; exact hI.2 j (by omega) hw
theorem bo_recountAll_s {S : mj_S} {h : mj_H} (hs : HT h) {K : SK} (hO : KO K) {F : SF} {f s : Nat} {cd : Nat → Nat} {L : Nat → Pl} (hL : okLy K.1 L) {l : Nat → Nat} {wn : Nat → Nat → Nat} (hX : BX K F f s cd L l wn h) : Cl S bo_recountAll [.ref 7] h (fun r h' => r = none ∧ Fr W14 h h' ∧ FgX K F f s cd L l wn h') := by
  show Ex S bo_recountAll 0 [some (.ref 7), none] [] h _
  refine Ex_iconst d_bo_recountAll_0 ic_0 ?_
  refine Ex_istore_n [some (.ref 7), some (.int (0))] d_bo_recountAll_1 (Nat.le_of_ble_eq_true rfl) rfl ?_
  refine bo_recountAll_L hs hO hL hX (fun h1 hI => ?_) 64 0 rfl h ⟨Fr.rf, fun j hj => absurd hj (Nat.not_lt_zero _)⟩
  refine Ex_return d_bo_recountAll_19 rfl ?_
  exact ⟨rfl, hI.1, fun k hk => hI.2 k hk⟩
