/-! The class: how many fit. -/
def WnC (F : SF) (f : Nat) (wn : Nat → Nat → Nat) (h : mj_H) : Prop := ∀ k, k < 64 → inF F f k → ∀ e, e < 4 → mI h 13 (k * 4 + e) = nI (wn k e) ∧ wn k e < 17
def LfC (l : Nat → Nat) (h : mj_H) : Prop := ∀ k, k < 40 → mI h 15 k = nI (l k)
def LbC (s : Nat) (cd l : Nat → Nat) (h : mj_H) : Prop := ∀ w, w < 5 → mL h 16 w = wdL (bL s cd l) w
def BT (K : SK) (F : SF) (f s : Nat) (cd : Nat → Nat) (h : mj_H) : Prop := CdC K F f s cd h ∧ BiC K s cd h ∧ BrC F f h
def BX (K : SK) (F : SF) (f s : Nat) (cd : Nat → Nat) (L : Nat → Pl) (l : Nat → Nat) (wn : Nat → Nat → Nat) (h : mj_H) : Prop := BT K F f s cd h ∧ BcC F f L h ∧ WnC F f wn h ∧ LfC l h ∧ LbC s cd l h
def FgX (K : SK) (F : SF) (f s : Nat) (cd : Nat → Nat) (L : Nat → Pl) (l : Nat → Nat) (wn : Nat → Nat → Nat) (h : mj_H) : Prop := ∀ k, k < 64 → wtB F f L k = true → mI h 14 k = nI (cnB (gE K s cd l (wn k) 4) 0 320)
theorem BT_fr {W : Nat → Nat → Prop} {K : SK} {F : SF} {f s : Nat} {cd : Nat → Nat} {h h1 : mj_H} (hs : HT h) (fr : Fr W h h1) (w1 : ∀ k, ¬ W 9 k) (w2 : ∀ k, ¬ W 10 k) (w3 : ¬ W 8 1) (w4 : ∀ k, 2 ≤ k → ¬ W 7 k) (z : BT K F f s cd h) : BT K F f s cd h1 := by
  have hn := HT_n hs
  obtain ⟨⟨z1, z2, z3⟩, z4, z5, z6⟩ := z
  refine ⟨⟨z1, ?_, fun c hc => ?_⟩, fun e c w he hc hw => ?_, ?_, ?_⟩
  · rw [fr.I (by omega) w3]; exact z2
  · rw [fr.I (by omega) (w1 _)]; exact z3 c hc
  · rw [fr.L (by omega) (w2 _)]; exact z4 e c w he hc hw
  · rw [fr.I (by omega) (w4 _ (by decide))]; exact z5
  · rw [fr.I (by omega) (w4 _ (by decide))]; exact z6
theorem BcC_fr {W : Nat → Nat → Prop} {F : SF} {f : Nat} {L : Nat → Pl} {h h1 : mj_H} (hs : HT h) (fr : Fr W h h1) (w1 : ∀ k, ¬ W 11 k) (w2 : ∀ k, ¬ W 12 k) (z : BcC F f L h) : BcC F f L h1 := by
  have hn := HT_n hs
  intro k hk
  rw [fr.I (by omega) (w1 _), fr.I (by omega) (w2 _)]
  exact z k hk
theorem WnC_fr {W : Nat → Nat → Prop} {F : SF} {f : Nat} {wn : Nat → Nat → Nat} {h h1 : mj_H} (hs : HT h) (fr : Fr W h h1) (w1 : ∀ k, ¬ W 13 k) (z : WnC F f wn h) : WnC F f wn h1 := by
  have hn := HT_n hs
  intro k hk hi e he
  rw [fr.I (by omega) (w1 _)]
  exact z k hk hi e he
theorem LfC_fr {W : Nat → Nat → Prop} {l : Nat → Nat} {h h1 : mj_H} (hs : HT h) (fr : Fr W h h1) (w1 : ∀ k, ¬ W 15 k) (z : LfC l h) : LfC l h1 := by
  have hn := HT_n hs
  intro k hk
  rw [fr.I (by omega) (w1 _)]
  exact z k hk
theorem LbC_fr {W : Nat → Nat → Prop} {s : Nat} {cd l : Nat → Nat} {h h1 : mj_H} (hs : HT h) (fr : Fr W h h1) (w1 : ∀ k, ¬ W 16 k) (z : LbC s cd l h) : LbC s cd l h1 := by
  have hn := HT_n hs
  intro k hk
  rw [fr.L (by omega) (w1 _)]
  exact z k hk
def W14 (a k : Nat) : Prop := a = 14
theorem W14_st : ∀ q ∈ statR, ¬ W14 q.1 q.2.1 := by
  have h2 : ∀ q ∈ statR, ¬ (q.1 = 14) := by decide
  exact h2
theorem W14_B : ∀ a k, W14 a k → WBo a k := by intro a k; unfold W14 WBo; omega
theorem BX_14 {K : SK} {F : SF} {f s : Nat} {cd : Nat → Nat} {L : Nat → Pl} {l : Nat → Nat} {wn : Nat → Nat → Nat} {h h1 : mj_H} (hs : HT h) (fr : Fr W14 h h1) (z : BX K F f s cd L l wn h) : BX K F f s cd L l wn h1 := by
  refine ⟨BT_fr hs fr ?_ ?_ ?_ ?_ z.1, BcC_fr hs fr ?_ ?_ z.2.1, WnC_fr hs fr ?_ z.2.2.1, LfC_fr hs fr ?_ z.2.2.2.1, LbC_fr hs fr ?_ z.2.2.2.2⟩ <;> unfold W14 <;> omega
theorem bo_fittingWord_L {S : mj_S} {h : mj_H} (hs : HT h) {K : SK} {s : Nat} {cd l : Nat → Nat} (hB : BiC K s cd h) (hLb : LbC s cd l h) {k : Nat} (hk : k < 64) {wn : Nat → Nat} (hr : ∀ e, e < 4 → mI h 13 (k * 4 + e) = nI (wn e) ∧ wn e < 17) {w : Nat} (hw : w < 5) : ∀ d e : Nat, e + d = 4 → Ex S bo_fittingWord 10 [some (.ref 7), some (.int (nI (k))), some (.int (nI (w))), some (.long (wdL (gE K s cd l wn e) w)), none, some (.int (nI (e)))] [] h (Pu (.long (wdL (gE K s cd l wn 4) w)) h) := by
  intro d
  induction d with
  | zero =>
    intro e hkk
    obtain rfl : 4 = e := by omega
    refine Ex_iload d_bo_fittingWord_10 rfl ?_
    refine Ex_iconst d_bo_fittingWord_12 ic_4 ?_
    refine Ex_icmp_geN (4) (4) 46 d_bo_fittingWord_13 rfl rfl rfl (by omega) (by omega) (fun hc13 => ?_) (fun hc13 => ?_)
    · refine Ex_lload_n d_bo_fittingWord_46 rfl ?_
      refine Ex_lreturn d_bo_fittingWord_47 rfl ?_
      exact ⟨rfl, rfl⟩
    · exfalso; omega
  | succ d ih =>
    intro e hkk
    refine Ex_iload d_bo_fittingWord_10 rfl ?_
    refine Ex_iconst d_bo_fittingWord_12 ic_4 ?_
    refine Ex_icmp_geN (e) (4) 46 d_bo_fittingWord_13 rfl rfl rfl (by omega) (by omega) (fun hc13 => ?_) (fun hc13 => ?_)
    · exfalso; omega
    · refine Ex_lload_n d_bo_fittingWord_16 rfl ?_
      refine Ex_aload_n d_bo_fittingWord_17 rfl ?_
      refine Ex_getR (v := .ref 8) d_bo_fittingWord_18 pf_bo_41 rfl (t_7 hs) (r_7_0 hs) ?_
      refine Ex_iload d_bo_fittingWord_21 rfl ?_
      refine Ex_aload_n d_bo_fittingWord_23 rfl ?_
      refine Ex_getR (v := .ref 13) d_bo_fittingWord_24 pf_bo_21 rfl (t_7 hs) (r_7_6 hs) ?_
      refine Ex_iload_n d_bo_fittingWord_27 rfl ?_
      refine Ex_iconst d_bo_fittingWord_28 ic_4 ?_
      refine Ex_imulN (k) (4) d_bo_fittingWord_29 rfl rfl ?_
      refine Ex_iload d_bo_fittingWord_30 rfl ?_
      refine Ex_iaddN (k * 4) (e) d_bo_fittingWord_32 rfl rfl ?_
      refine Ex_ialoadN (a := (k * 4) + e) (y := (nI (wn e))) d_bo_fittingWord_33 (t_13 hs) rfl (by omega) (by decide) (hr e (by omega)).1 ?_
      refine Ex_iload_n d_bo_fittingWord_34 rfl ?_
      refine Ex_pV3 (v := .long (wdL (bM K s cd e (wn e)) w)) d_bo_fittingWord_35 pk_bo_fittingWord_72 (t_8 hs) (show Cl S ch_withColour [.ref 8, .int (nI e), .int (nI (wn e)), .int (nI w)] h (Pu (.long (wdL (bM K s cd e (wn e)) w)) h) by have z := ch_withColour_s (S := S) hs (e := e) (c := wn e) (w := w) (by omega) (hr e (by omega)).2 hw; rw [hB e (wn e) w (by omega) (hr e (by omega)).2 hw] at z; exact z) ?_
      refine Ex_land d_bo_fittingWord_38 ?_
      rw [show ((wdL (gE K s cd l wn e) w) &&& (wdL (bM K s cd e (wn e)) w) : Int64) = wdL (gE K s cd l wn (e + 1)) w from (wdL_and _ _ _)]
      refine Ex_lstore_n [some (.ref 7), some (.int (nI (k))), some (.int (nI (w))), some (.long (wdL (gE K s cd l wn (e + 1)) w)), none, some (.int (nI (e)))] d_bo_fittingWord_39 (Nat.le_of_ble_eq_true rfl) rfl ?_
      refine Ex_iincN (e) 1 [some (.ref 7), some (.int (nI (k))), some (.int (nI (w))), some (.long (wdL (gE K s cd l wn (e + 1)) w)), none, some (.int (nI (e + 1)))] d_bo_fittingWord_40 rfl rfl rfl rfl ?_
      refine Ex_goto 10 d_bo_fittingWord_43 rfl ?_
      exact ih (e + 1) (by omega)
theorem bo_fittingWord_s {S : mj_S} {h : mj_H} (hs : HT h) {K : SK} {s : Nat} {cd l : Nat → Nat} (hB : BiC K s cd h) (hLb : LbC s cd l h) {k : Nat} (hk : k < 64) {wn : Nat → Nat} (hr : ∀ e, e < 4 → mI h 13 (k * 4 + e) = nI (wn e) ∧ wn e < 17) {w : Nat} (hw : w < 5) : Cl S bo_fittingWord [.ref 7, .int (nI (k)), .int (nI (w))] h (Pu (.long (wdL (gE K s cd l wn 4) w)) h) := by
  show Ex S bo_fittingWord 0 [some (.ref 7), some (.int (nI (k))), some (.int (nI (w))), none, none, none] [] h _
  refine Ex_aload_n d_bo_fittingWord_0 rfl ?_
  refine Ex_getR (v := .ref 16) d_bo_fittingWord_1 pf_bo_34 rfl (t_7 hs) (r_7_9 hs) ?_
  refine Ex_iload_n d_bo_fittingWord_4 rfl ?_
  refine Ex_laloadN (a := w) (w := (wdL (gE K s cd l wn 0) w)) d_bo_fittingWord_5 (t_16 hs) rfl (by omega) (by decide) (hLb w hw) ?_
  refine Ex_lstore_n [some (.ref 7), some (.int (nI (k))), some (.int (nI (w))), some (.long (wdL (gE K s cd l wn 0) w)), none, none] d_bo_fittingWord_6 (Nat.le_of_ble_eq_true rfl) rfl ?_
  refine Ex_iconst d_bo_fittingWord_7 ic_0 ?_
  refine Ex_istore [some (.ref 7), some (.int (nI (k))), some (.int (nI (w))), some (.long (wdL (gE K s cd l wn 0) w)), none, some (.int (0))] d_bo_fittingWord_8 (Nat.le_of_ble_eq_true rfl) rfl ?_
  exact bo_fittingWord_L hs hB hLb hk hr hw 4 0 rfl
theorem bo_recount_L {S : mj_S} {Q : Option Value → mj_H → Prop} {h : mj_H} (hs : HT h) {K : SK} (hO : KO K) {F : SF} {f s : Nat} {cd : Nat → Nat} {L : Nat → Pl} (hL : okLy K.1 L) {l : Nat → Nat} {wn : Nat → Nat → Nat} (hX : BX K F f s cd L l wn h) {k : Nat} (hk : k < 64) (hin : inF F f k)
    (kx : Ex S bo_recount 35 [some (.ref 7), some (.int (nI (k))), some (.int (nI (cnB (gE K s cd l (wn k) 4) 0 (64 * 5)))), some (.int (nI (5)))] [] h Q) : ∀ d w : Nat, w + d = 5 → Ex S bo_recount 12 [some (.ref 7), some (.int (nI (k))), some (.int (nI (cnB (gE K s cd l (wn k) 4) 0 (64 * w)))), some (.int (nI (w)))] [] h Q := by
  intro d
  induction d with
  | zero =>
    intro w hkk
    obtain rfl : 5 = w := by omega
    refine Ex_iload_n d_bo_recount_12 rfl ?_
    refine Ex_iconst d_bo_recount_13 ic_5 ?_
    refine Ex_icmp_geN (5) (5) 35 d_bo_recount_14 rfl rfl rfl (by omega) (by omega) (fun hc14 => ?_) (fun hc14 => ?_)
    · exact kx
    · exfalso; omega
  | succ d ih =>
    intro w hkk
    refine Ex_iload_n d_bo_recount_12 rfl ?_
    refine Ex_iconst d_bo_recount_13 ic_5 ?_
    refine Ex_icmp_geN (w) (5) 35 d_bo_recount_14 rfl rfl rfl (by omega) (by omega) (fun hc14 => ?_) (fun hc14 => ?_)
    · exfalso; omega
    · refine Ex_iload_n d_bo_recount_17 rfl ?_
      refine Ex_aload_n d_bo_recount_18 rfl ?_
      refine Ex_iload_n d_bo_recount_19 rfl ?_
      refine Ex_iload_n d_bo_recount_20 rfl ?_
      refine Ex_pV2 (v := .long (wdL (gE K s cd l (wn k) 4) w)) d_bo_recount_21 pk_bo_recount_96 (t_7 hs) (bo_fittingWord_s hs hX.1.2.1 hX.2.2.2.2 hk (hX.2.2.1 k hk hin) (by omega)) ?_
      refine Ex_pS1 (v := .int (nI (cnB (gE K s cd l (wn k) 4) (64 * w) 64))) d_bo_recount_24 pk_bo_recount_100 (wdL_bc _ _) ?_
      refine Ex_iaddN (cnB (gE K s cd l (wn k) 4) 0 (64 * w)) (cnB (gE K s cd l (wn k) 4) (64 * w) 64) d_bo_recount_27 rfl rfl ?_
      rw [show ((nI ((cnB (gE K s cd l (wn k) 4) 0 (64 * w)) + (cnB (gE K s cd l (wn k) 4) (64 * w) 64))) : Int32) = (nI (cnB (gE K s cd l (wn k) 4) 0 (64 * (w + 1)))) from (by rw [show 64 * (w + 1) = 64 * w + 64 from rfl, cnB_a, Nat.zero_add])]
      refine Ex_istore_n [some (.ref 7), some (.int (nI (k))), some (.int (nI (cnB (gE K s cd l (wn k) 4) 0 (64 * (w + 1))))), some (.int (nI (w)))] d_bo_recount_28 (Nat.le_of_ble_eq_true rfl) rfl ?_
      refine Ex_iincN (w) 1 [some (.ref 7), some (.int (nI (k))), some (.int (nI (cnB (gE K s cd l (wn k) 4) 0 (64 * (w + 1))))), some (.int (nI (w + 1)))] d_bo_recount_29 rfl rfl rfl rfl ?_
      refine Ex_goto 12 d_bo_recount_32 rfl ?_
      exact ih (w + 1) (by omega)
theorem bo_recount_s {S : mj_S} {h : mj_H} (hs : HT h) {K : SK} (hO : KO K) {F : SF} {f s : Nat} {cd : Nat → Nat} {L : Nat → Pl} (hL : okLy K.1 L) {l : Nat → Nat} {wn : Nat → Nat → Nat} (hX : BX K F f s cd L l wn h) {k : Nat} (hk : k < 64) : Cl S bo_recount [.ref 7, .int (nI (k))] h (fun r h' => r = none ∧ Fr (fun a j => a = 14 ∧ j = k) h h' ∧ (wtB F f L k = true → mI h' 14 k = nI (cnB (gE K s cd l (wn k) 4) 0 320))) := by
  show Ex S bo_recount 0 [some (.ref 7), some (.int (nI (k))), none, none] [] h _
  refine Ex_aload_n d_bo_recount_0 rfl ?_
  refine Ex_iload_n d_bo_recount_1 rfl ?_
  refine Ex_pV1 (v := .int (bI (wtB F f L k))) d_bo_recount_2 pk_bo_recount_93 (t_7 hs) (bo_isWaiting_s hs hO.1 hL hX.2.1 hk) ?_
  refine Ex_if_eqB (wtB F f L k) 42 d_bo_recount_5 rfl rfl (fun hc5 => ?_) (fun hc5 => ?_)
  · refine Ex_return d_bo_recount_42 rfl ?_
    exact ⟨rfl, Fr.rf, fun z => absurd (z.symm.trans hc5) (by decide)⟩
  · refine Ex_iconst d_bo_recount_8 ic_0 ?_
    refine Ex_istore_n [some (.ref 7), some (.int (nI (k))), some (.int (0)), none] d_bo_recount_9 (Nat.le_of_ble_eq_true rfl) rfl ?_
    refine Ex_iconst d_bo_recount_10 ic_0 ?_
    refine Ex_istore_n [some (.ref 7), some (.int (nI (k))), some (.int (0)), some (.int (0))] d_bo_recount_11 (Nat.le_of_ble_eq_true rfl) rfl ?_
    have hin : inF F f k := by have z := hc5; unfold wtB at z; rw [decide_eq_true_eq] at z; exact z.1.1
    refine bo_recount_L hs hO hL hX hk hin ?_ 5 0 rfl
    show Ex S bo_recount 35 [some (.ref 7), some (.int (nI (k))), some (.int (nI (cnB (gE K s cd l (wn k) 4) 0 320))), some (.int (nI (5)))] [] h _
    refine Ex_aload_n d_bo_recount_35 rfl ?_
    refine Ex_getR (v := .ref 14) d_bo_recount_36 pf_bo_24 rfl (t_7 hs) (r_7_7 hs) ?_
    refine Ex_iload_n d_bo_recount_39 rfl ?_
    refine Ex_iload_n d_bo_recount_40 rfl ?_
    refine Ex_iastoreN (a := k) d_bo_recount_41 (t_14 hs) rfl (by omega) (by decide) ?_
    refine Ex_return d_bo_recount_42 rfl ?_
    exact ⟨rfl, Fr.rf.sI (W := fun a j => a = 14 ∧ j = k) ⟨rfl, rfl⟩, fun _ => mI_self _ _ _ _⟩
theorem bo_recountAll_L {S : mj_S} {Q : Option Value → mj_H → Prop} {h : mj_H} (hs : HT h) {K : SK} (hO : KO K) {F : SF} {f s : Nat} {cd : Nat → Nat} {L : Nat → Pl} (hL : okLy K.1 L) {l : Nat → Nat} {wn : Nat → Nat → Nat} (hX : BX K F f s cd L l wn h)
    (kx : ∀ h1 : mj_H, (Fr W14 h h1 ∧ ∀ j, j < 64 → wtB F f L j = true → mI h1 14 j = nI (cnB (gE K s cd l (wn j) 4) 0 320)) → Ex S bo_recountAll 19 [some (.ref 7), some (.int (nI (64)))] [] h1 Q) : ∀ d k : Nat, k + d = 64 → ∀ h1 : mj_H, (Fr W14 h h1 ∧ ∀ j, j < k → wtB F f L j = true → mI h1 14 j = nI (cnB (gE K s cd l (wn j) 4) 0 320)) → Ex S bo_recountAll 2 [some (.ref 7), some (.int (nI (k)))] [] h1 Q := by
  intro d
  induction d with
  | zero =>
    intro k hkk h1 hI
    obtain rfl : 64 = k := by omega
    have hn4 := HT_n hs
    have hs1 := hI.1.ht hs W14_st
    have hn5 := HT_n hs1
    refine Ex_iload_n d_bo_recountAll_2 rfl ?_
    refine Ex_bipush d_bo_recountAll_3 bp_64 ?_
    refine Ex_icmp_geN (64) (64) 19 d_bo_recountAll_5 rfl rfl rfl (by omega) (by omega) (fun hc5 => ?_) (fun hc5 => ?_)
    · exact kx h1 hI
    · exfalso; omega
  | succ d ih =>
    intro k hkk h1 hI
    have hn4 := HT_n hs
    have hs1 := hI.1.ht hs W14_st
    have hn5 := HT_n hs1
    refine Ex_iload_n d_bo_recountAll_2 rfl ?_
    refine Ex_bipush d_bo_recountAll_3 bp_64 ?_
    refine Ex_icmp_geN (k) (64) 19 d_bo_recountAll_5 rfl rfl rfl (by omega) (by omega) (fun hc5 => ?_) (fun hc5 => ?_)
    · exfalso; omega
    · refine Ex_aload_n d_bo_recountAll_8 rfl ?_
      refine Ex_iload_n d_bo_recountAll_9 rfl ?_
      refine Ex_cV1 d_bo_recountAll_10 pk_bo_recountAll_106 (t_7 hs1) (bo_recount_s hs1 hO hL (BX_14 hs hI.1 hX) (k := k) (by omega)) ?_
      rintro rv h2 ⟨rfl, w1, w2⟩
      show Ex S bo_recountAll 13 [some (.ref 7), some (.int (nI (k)))] [] h2 _
      refine Ex_iincN (k) 1 [some (.ref 7), some (.int (nI (k + 1)))] d_bo_recountAll_13 rfl rfl rfl rfl ?_
      refine Ex_goto 2 d_bo_recountAll_16 rfl ?_
      refine ih (k + 1) (by omega) _ ⟨hI.1.tr (w1.mono (fun a j z => z.1)), fun j hj hw => ?_⟩
      by_cases q : j = k
      · subst q; exact w2 hw
      · rw [w1.I (by omega) (fun z => q z.2)]; exact hI.2 j (by omega) hw
theorem bo_recountAll_s {S : mj_S} {h : mj_H} (hs : HT h) {K : SK} (hO : KO K) {F : SF} {f s : Nat} {cd : Nat → Nat} {L : Nat → Pl} (hL : okLy K.1 L) {l : Nat → Nat} {wn : Nat → Nat → Nat} (hX : BX K F f s cd L l wn h) : Cl S bo_recountAll [.ref 7] h (fun r h' => r = none ∧ Fr W14 h h' ∧ FgX K F f s cd L l wn h') := by
  show Ex S bo_recountAll 0 [some (.ref 7), none] [] h _
  refine Ex_iconst d_bo_recountAll_0 ic_0 ?_
  refine Ex_istore_n [some (.ref 7), some (.int (0))] d_bo_recountAll_1 (Nat.le_of_ble_eq_true rfl) rfl ?_
  refine bo_recountAll_L hs hO hL hX (fun h1 hI => ?_) 64 0 rfl h ⟨Fr.rf, fun j hj => absurd hj (Nat.not_lt_zero _)⟩
  refine Ex_return d_bo_recountAll_19 rfl ?_
  exact ⟨rfl, hI.1, fun k hk => hI.2 k hk⟩
