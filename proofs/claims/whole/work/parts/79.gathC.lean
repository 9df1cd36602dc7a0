/-! The class: the choices are gathered. -/
theorem one_sh : ∀ i, i < 64 → (1 : Int64) <<< ((nI i).toInt64 &&& 63) = nL (2 ^ i) := by decide +kernel
theorem m1_sh : ∀ i, i < 64 → (-1 : Int64) <<< ((nI i).toInt64 &&& 63) = nL (18446744073709551616 - 2 ^ i) := by decide +kernel
theorem wdL_c {g g' : Nat → Bool} {w : Nat} (h : ∀ i, i < 64 → g (64 * w + i) = g' (64 * w + i)) : wdL g w = wdL g' w := by
  unfold wdL
  congr 1
  apply Nat.eq_of_testBit_eq
  intro i
  rw [kbits_tb, kbits_tb]
  by_cases hi : i < 64
  · rw [h i hi]
  · rw [decide_eq_false hi, Bool.false_and, Bool.false_and]
theorem wdL_or1 (g : Nat → Bool) (s : Nat) : wdL g (s / 64) ||| nL (2 ^ (s % 64)) = wdL (fun c => g c || decide (c = s)) (s / 64) := by
  unfold wdL
  rw [nL_or]
  congr 1
  apply Nat.eq_of_testBit_eq
  intro i
  rw [Nat.testBit_or, kbits_tb, kbits_tb, Nat.testBit_two_pow]
  by_cases hi : i < 64
  · rw [decide_eq_true hi, Bool.true_and, Bool.true_and]
    congr 1
    exact decide_eq_decide.mpr (by omega)
  · rw [decide_eq_false hi, Bool.false_and, Bool.false_and, decide_eq_false (by omega)]; rfl
theorem wdL_xor1 (g : Nat → Bool) (s : Nat) : wdL g (s / 64) ^^^ nL (2 ^ (s % 64)) = wdL (fun c => g c ^^ decide (c = s)) (s / 64) := by
  unfold wdL
  rw [nL_xor]
  congr 1
  apply Nat.eq_of_testBit_eq
  intro i
  rw [Nat.testBit_xor, kbits_tb, kbits_tb, Nat.testBit_two_pow]
  by_cases hi : i < 64
  · rw [decide_eq_true hi, Bool.true_and, Bool.true_and]
    congr 1
    exact decide_eq_decide.mpr (by omega)
  · rw [decide_eq_false hi, Bool.false_and, Bool.false_and, decide_eq_false (by omega)]; rfl
theorem wdL_mask (g : Nat → Bool) (s : Nat) : wdL g (s / 64) &&& nL (18446744073709551616 - 2 ^ (s % 64)) = wdL (fun c => g c && decide (s ≤ c)) (s / 64) := by
  unfold wdL
  rw [nL_and]
  congr 1
  apply Nat.eq_of_testBit_eq
  intro i
  have hp : 0 < 2 ^ (s % 64) := Nat.two_pow_pos _
  rw [Nat.testBit_and, kbits_tb, kbits_tb, show (18446744073709551616 : Nat) - 2 ^ (s % 64) = 2 ^ 64 - ((2 ^ (s % 64) - 1) + 1) by rw [Nat.sub_add_cancel hp], Nat.testBit_two_pow_sub_succ (by
    have : 2 ^ (s % 64) ≤ 2 ^ 63 := Nat.pow_le_pow_right (by decide) (by omega)
    have : (2 : Nat) ^ 63 < 2 ^ 64 := by decide
    omega), Nat.testBit_two_pow_sub_one]
  by_cases hi : i < 64
  · rw [decide_eq_true hi, Bool.true_and, Bool.true_and, Bool.true_and]
    congr 1
    rw [← decide_not]
    exact decide_eq_decide.mpr (by omega)
  · rw [decide_eq_false hi, Bool.false_and, Bool.false_and, Bool.false_and]
def WBo (a k : Nat) : Prop := (9 ≤ a ∧ a ≤ 17) ∨ (a = 7 ∧ 1 ≤ k ∧ k ≤ 3) ∨ (a = 8 ∧ k = 1)
theorem WBo_st : ∀ q ∈ statR, ¬ WBo q.1 q.2.1 := by
  have h2 : ∀ q ∈ statR, ¬ ((9 ≤ q.1 ∧ q.1 ≤ 17) ∨ (q.1 = 7 ∧ 1 ≤ q.2.1 ∧ q.2.1 ≤ 3) ∨ (q.1 = 8 ∧ q.2.1 = 1)) := by decide
  exact h2
theorem KC_B {K : SK} {h h' : mj_H} (hs : HT h) (f : Fr WBo h h') (hK : KC K h) : KC K h' := KC_fr hs f (by intro a k; unfold WKC WBo; omega) hK
theorem FlC1_B {F : SF} {Y : OW} {h h' : mj_H} (hs : HT h) (fr : Fr WBo h h') {q a b c d : Nat} (z : FlC1 F Y h q a b c d) : FlC1 F Y h' q a b c d := by
  have w := z.1
  exact FlC1_fr hs fr (by unfold WBo; omega) (by unfold WBo; omega) (by unfold WBo; omega) (by unfold WBo; omega) (by unfold WBo; omega) OwE.rf z
def W10 (a k : Nat) : Prop := a = 10
theorem W10_st : ∀ q ∈ statR, ¬ W10 q.1 q.2.1 := by
  have h2 : ∀ q ∈ statR, ¬ (q.1 = 10) := by decide
  exact h2
theorem W10_B : ∀ a k, W10 a k → WBo a k := by intro a k; unfold W10 WBo; omega
theorem jd_fillM_L {S : mj_S} {Q : Option Value → mj_H → Prop} {h : mj_H} (hs : HT h)
    (kx : ∀ h1 : mj_H, (Fr W10 h h1 ∧ ∀ i, i < 340 → mL h1 10 i = 0) → Ex S jd_fillL 22 [some (.ref 10), some (.long (0)), none, some (.int (nI (340))), some (.int (nI (340)))] [] h1 Q) : ∀ d k : Nat, k + d = 340 → ∀ h1 : mj_H, (Fr W10 h h1 ∧ ∀ i, i < k → mL h1 10 i = 0) → Ex S jd_fillL 6 [some (.ref 10), some (.long (0)), none, some (.int (nI (k))), some (.int (nI (340)))] [] h1 Q := by
  intro d
  induction d with
  | zero =>
    intro k hkk h1 hI
    obtain rfl : 340 = k := by omega
    have hs1 := hI.1.ht hs W10_st
    refine Ex_iload_n d_jd_fillL_6 rfl ?_
    refine Ex_iload d_jd_fillL_7 rfl ?_
    refine Ex_icmp_geN (340) (340) 22 d_jd_fillL_9 rfl rfl rfl (by omega) (by omega) (fun hc9 => ?_) (fun hc9 => ?_)
    · exact kx h1 hI
    · exfalso; omega
  | succ d ih =>
    intro k hkk h1 hI
    have hs1 := hI.1.ht hs W10_st
    refine Ex_iload_n d_jd_fillL_6 rfl ?_
    refine Ex_iload d_jd_fillL_7 rfl ?_
    refine Ex_icmp_geN (k) (340) 22 d_jd_fillL_9 rfl rfl rfl (by omega) (by omega) (fun hc9 => ?_) (fun hc9 => ?_)
    · exfalso; omega
    · refine Ex_aload_n d_jd_fillL_12 rfl ?_
      refine Ex_iload_n d_jd_fillL_13 rfl ?_
      refine Ex_lload_n d_jd_fillL_14 rfl ?_
      refine Ex_lastoreN (a := k) d_jd_fillL_15 (t_10 hs1) rfl (by omega) (by decide) ?_
      refine Ex_iincN (k) 1 [some (.ref 10), some (.long (0)), none, some (.int (nI (k + 1))), some (.int (nI (340)))] d_jd_fillL_16 rfl rfl rfl rfl ?_
      refine Ex_goto 6 d_jd_fillL_19 rfl ?_
      refine ih (k + 1) (by omega) _ ⟨hI.1.sL rfl, fun i hi => ?_⟩
      by_cases w : i = k
      · subst w; exact mL_self _ _ _ _
      · rw [mL_oth (Or.inr w)]; exact hI.2 i (by omega)
theorem jd_fillM_s {S : mj_S} {h : mj_H} (hs : HT h) : Cl S jd_fillL [.ref 10, .long (0)] h (fun r h' => r = none ∧ (∀ i, i < 340 → mL h' 10 i = 0) ∧ Fr W10 h h') := by
  show Ex S jd_fillL 0 [some (.ref 10), some (.long (0)), none, none, none] [] h _
  refine Ex_iconst d_jd_fillL_0 ic_0 ?_
  refine Ex_istore_n [some (.ref 10), some (.long (0)), none, some (.int (0)), none] d_jd_fillL_1 (Nat.le_of_ble_eq_true rfl) rfl ?_
  refine Ex_aload_n d_jd_fillL_2 rfl ?_
  refine Ex_arraylength d_jd_fillL_3 (t_10 hs) (by decide) ?_
  refine Ex_istore [some (.ref 10), some (.long (0)), none, some (.int (0)), some (.int (nI (340)))] d_jd_fillL_4 (Nat.le_of_ble_eq_true rfl) rfl ?_
  refine jd_fillM_L hs (fun h1 hI1 => ?_) 340 0 rfl h ⟨Fr.rf, fun i hi => absurd hi (Nat.not_lt_zero _)⟩
  refine Ex_return d_jd_fillL_22 rfl ?_
  exact ⟨rfl, hI1.2, hI1.1⟩
def mkH (h : mj_H) (s e c : Nat) : mj_H := wL h 10 ((e * 17 + c) * 5 + s / 2 ^ 6) (mL h 10 ((e * 17 + c) * 5 + s / 2 ^ 6) ||| nL (2 ^ (s % 64)))
theorem ch_mark_s {S : mj_S} {h : mj_H} (hs : HT h) {s e c : Nat} (hz : mI h 8 1 = nI s) (hs3 : s < 320) (he : e < 4) (hc : c < 17) : Cl S ch_mark [.ref 8, .int (nI (e)), .int (nI (c))] h (fun r h' => r = none ∧ h' = mkH h s e c) := by
  show Ex S ch_mark 0 [some (.ref 8), some (.int (nI (e))), some (.int (nI (c)))] [] h _
  refine Ex_aload_n d_ch_mark_0 rfl ?_
  refine Ex_getR (v := .ref 10) d_ch_mark_1 pf_ch_17 rfl (t_8 hs) (r_8_3 hs) ?_
  refine Ex_iload_n d_ch_mark_4 rfl ?_
  refine Ex_bipush d_ch_mark_5 bp_17 ?_
  refine Ex_imulN (e) (17) d_ch_mark_7 rfl rfl ?_
  refine Ex_iload_n d_ch_mark_8 rfl ?_
  refine Ex_iaddN (e * 17) (c) d_ch_mark_9 rfl rfl ?_
  refine Ex_iconst d_ch_mark_10 ic_5 ?_
  refine Ex_imulN ((e * 17) + c) (5) d_ch_mark_11 rfl rfl ?_
  refine Ex_aload_n d_ch_mark_12 rfl ?_
  refine Ex_getIE (y := (nI (s))) d_ch_mark_13 pf_ch_25 rfl (t_8 hs) hz ?_
  refine Ex_bipush d_ch_mark_16 bp_6 ?_
  refine Ex_ishr d_ch_mark_18 ?_
  rw [show (((nI (s)) >>> ((6 : Int32) &&& 31)) : Int32) = (nI (s / 2 ^ 6)) from (nI_shr (j := 6) (by omega) (by decide))]
  refine Ex_iaddN (((e * 17) + c) * 5) (s / 2 ^ 6) d_ch_mark_19 rfl rfl ?_
  refine Ex_dup2 rfl rfl d_ch_mark_20 ?_
  refine Ex_laloadN (a := (((e * 17) + c) * 5) + (s / 2 ^ 6)) (w := (mL h 10 ((((e * 17) + c) * 5) + (s / 2 ^ 6)))) d_ch_mark_21 (t_10 hs) rfl (by omega) (by decide) rfl ?_
  refine Ex_lconst d_ch_mark_22 lc_1 ?_
  refine Ex_aload_n d_ch_mark_23 rfl ?_
  refine Ex_getIE (y := (nI (s))) d_ch_mark_24 pf_ch_25 rfl (t_8 hs) hz ?_
  refine Ex_bipush d_ch_mark_27 bp_63 ?_
  refine Ex_iand d_ch_mark_29 ?_
  rw [show (((nI (s)) &&& (63 : Int32)) : Int32) = (nI (s % 64)) from (nI_63 _)]
  refine Ex_lshl d_ch_mark_30 ?_
  rw [show (1 <<< ((nI (s % 64)).toInt64 &&& 63) : Int64) = nL (2 ^ (s % 64)) from (one_sh _ (Nat.mod_lt _ (by decide)))]
  refine Ex_lor d_ch_mark_31 ?_
  refine Ex_lastoreN (a := (((e * 17) + c) * 5) + (s / 2 ^ 6)) d_ch_mark_32 (t_10 hs) rfl (by omega) (by decide) ?_
  refine Ex_return d_ch_mark_33 rfl ?_
  exact ⟨rfl, rfl⟩
def BiC (K : SK) (s : Nat) (cd : Nat → Nat) (h : mj_H) : Prop := ∀ e c w, e < 4 → c < 17 → w < 5 → mL h 10 ((e * 17 + c) * 5 + w) = wdL (bM K s cd e c) w
def BiM (K : SK) (s : Nat) (cd : Nat → Nat) (n e : Nat) (h : mj_H) : Prop := ∀ e' c w, e' < 4 → c < 17 → w < 5 → mL h 10 ((e' * 17 + c) * 5 + w) = wdL (if e' < e then bM K (s + 1) (va_up cd s n) e' c else bM K s cd e' c) w
theorem mk_s {h : mj_H} {s e c c' w : Nat} {g : Nat → Bool} (hs3 : s < 320) (hc : c < 17) (hc' : c' < 17) (hw : w < 5) (hg : mL h 10 ((e * 17 + c') * 5 + w) = wdL g w) : mL (mkH h s e c) 10 ((e * 17 + c') * 5 + w) = wdL (fun x => g x || decide (c' = c ∧ x = s)) w := by
  unfold mkH
  have h64 : s / 2 ^ 6 = s / 64 := rfl
  by_cases q : c' = c ∧ w = s / 64
  · obtain ⟨rfl, rfl⟩ := q
    rw [h64, mL_self, hg, wdL_or1]
    refine wdL_c (fun i _ => ?_)
    congr 1
    exact decide_eq_decide.mpr ⟨fun z => ⟨rfl, z⟩, fun z => z.2⟩
  · rw [h64, mL_oth (Or.inr (by omega)), hg]
    refine wdL_c (fun i hi => ?_)
    rw [decide_eq_false (by omega), Bool.or_false]
theorem mk_o {h : mj_H} {s e e' c c' w : Nat} (hs3 : s < 320) (hc : c < 17) (hc' : c' < 17) (hw : w < 5) (he : e' ≠ e) : mL (mkH h s e c) 10 ((e' * 17 + c') * 5 + w) = mL h 10 ((e' * 17 + c') * 5 + w) := by
  unfold mkH
  have h64 : s / 2 ^ 6 = s / 64 := rfl
  rw [h64, mL_oth (Or.inr (by omega))]
theorem bM_s {K : SK} {s : Nat} {cd : Nat → Nat} {n e c x : Nat} : bM K (s + 1) (va_up cd s n) e c x = (bM K s cd e c x || decide (x = s ∧ wkB c (kCol K (n / 8) (n % 8) e))) := by
  unfold bM va_up
  apply Bool.eq_iff_iff.mpr
  rw [Bool.or_eq_true, decide_eq_true_eq, decide_eq_true_eq, decide_eq_true_eq]
  by_cases q : x = s
  · rw [if_pos q]
    exact ⟨fun z => Or.inr ⟨q, z.2⟩, fun z => ⟨by omega, (z.resolve_left (fun y => by omega)).2⟩⟩
  · rw [if_neg q]
    exact ⟨fun z => Or.inl ⟨by omega, z.2⟩, fun z => (z.resolve_right (fun y => q y.1)).imp (fun y => by omega) id⟩
theorem BiM_s {K : SK} {s : Nat} {cd : Nat → Nat} {n e : Nat} {h : mj_H} (hB : BiM K s cd n e h) (hs3 : s < 320) (he : e < 4) : BiM K s cd n (e + 1) (mkH (mkH h s e (kCol K (n / 8) (n % 8) e)) s e 16) := by
  intro e' c w he' hc hw
  have hk := kCol_16 K (n / 8) (n % 8) e
  by_cases q : e' = e
  · subst q
    have z := hB e' c w he' hc hw
    rw [if_neg (Nat.lt_irrefl _)] at z
    rw [mk_s hs3 (by omega) hc hw (mk_s hs3 (by omega) hc hw z), if_pos (Nat.lt_succ_self _)]
    refine wdL_c (fun i _ => ?_)
    show ((bM K s cd e' c (64 * w + i) || _) || _) = _
    rw [bM_s, Bool.or_assoc]
    congr 1
    apply Bool.eq_iff_iff.mpr
    rw [Bool.or_eq_true, decide_eq_true_eq, decide_eq_true_eq, decide_eq_true_eq]
    exact ⟨fun z => z.elim (fun y => ⟨y.2, Or.inr y.1.symm⟩) (fun y => ⟨y.2, Or.inl y.1⟩), fun z => z.2.elim (fun y => Or.inr ⟨y, z.1⟩) (fun y => Or.inl ⟨y.symm, z.1⟩)⟩
  · rw [mk_o hs3 (by omega) hc hw q, mk_o hs3 (by omega) hc hw q, hB e' c w he' hc hw]
    by_cases r : e' < e
    · rw [if_pos r, if_pos (by omega)]
    · rw [if_neg r, if_neg (by omega)]
theorem ch_enter_L {S : mj_S} {Q : Option Value → mj_H → Prop} {h : mj_H} (hs : HT h) {K : SK} (hK : KC K h) (hO : KO K) {s : Nat} {cd : Nat → Nat} (hz : mI h 8 1 = nI s) (hs3 : s < 320) {n : Nat} (hn : n < 8 * K.1)
    (kx : ∀ h1 : mj_H, (BiM K s cd n 4 h1 ∧ Fr W10 h h1) → Ex S ch_enter 53 [some (.ref 8), some (.int (nI (n))), some (.int (nI (4)))] [] h1 Q) : ∀ d k : Nat, k + d = 4 → ∀ h1 : mj_H, (BiM K s cd n k h1 ∧ Fr W10 h h1) → Ex S ch_enter 24 [some (.ref 8), some (.int (nI (n))), some (.int (nI (k)))] [] h1 Q := by
  intro d
  induction d with
  | zero =>
    intro k hkk h1 hI
    obtain rfl : 4 = k := by omega
    have hn4 := HT_n hs
    have hs1 := hI.2.ht hs W10_st
    refine Ex_iload_n d_ch_enter_24 rfl ?_
    refine Ex_iconst d_ch_enter_25 ic_4 ?_
    refine Ex_icmp_geN (4) (4) 53 d_ch_enter_26 rfl rfl rfl (by omega) (by omega) (fun hc26 => ?_) (fun hc26 => ?_)
    · exact kx h1 hI
    · exfalso; omega
  | succ d ih =>
    intro k hkk h1 hI
    have hn4 := HT_n hs
    have hs1 := hI.2.ht hs W10_st
    have hK1 := KC_B hs (hI.2.mono W10_B) hK
    have hz1 : mI h1 8 1 = nI s := by rw [hI.2.I (by omega) (by unfold W10; omega)]; exact hz
    have hk16 := kCol_16 K (n / 8) (n % 8) k
    refine Ex_iload_n d_ch_enter_24 rfl ?_
    refine Ex_iconst d_ch_enter_25 ic_4 ?_
    refine Ex_icmp_geN (k) (4) 53 d_ch_enter_26 rfl rfl rfl (by omega) (by omega) (fun hc26 => ?_) (fun hc26 => ?_)
    · exfalso; omega
    · refine Ex_aload_n d_ch_enter_29 rfl ?_
      refine Ex_iload_n d_ch_enter_30 rfl ?_
      refine Ex_aload_n d_ch_enter_31 rfl ?_
      refine Ex_iload_n d_ch_enter_32 rfl ?_
      refine Ex_iload_n d_ch_enter_33 rfl ?_
      refine Ex_pV2 (v := .int (nI (kCol K (n / 8) (n % 8) k))) d_ch_enter_34 pk_ch_enter_52 (t_8 hs1) (ch_colourOf_v hs1 hK1 hO hn (by omega)) ?_
      refine Ex_cV2 d_ch_enter_37 pk_ch_enter_55 (t_8 hs1) (ch_mark_s hs1 hz1 hs3 (by omega) (by omega)) ?_
      rintro rv hh ⟨rfl, rfl⟩
      show Ex S ch_enter 40 [some (.ref 8), some (.int (nI (n))), some (.int (nI (k)))] [] (mkH h1 s k (kCol K (n / 8) (n % 8) k)) _
      refine Ex_aload_n d_ch_enter_40 rfl ?_
      refine Ex_iload_n d_ch_enter_41 rfl ?_
      refine Ex_bipush d_ch_enter_42 bp_16 ?_
      refine Ex_cV2 d_ch_enter_44 pk_ch_enter_55 (t_8 hs1) (ch_mark_s (s := s) (e := k) (c := 16) (show HT (mkH h1 s k (kCol K (n / 8) (n % 8) k)) from hs1) hz1 hs3 (by omega) (by omega)) ?_
      rintro rv hh ⟨rfl, rfl⟩
      show Ex S ch_enter 47 [some (.ref 8), some (.int (nI (n))), some (.int (nI (k)))] [] (mkH (mkH h1 s k (kCol K (n / 8) (n % 8) k)) s k 16) _
      refine Ex_iincN (k) 1 [some (.ref 8), some (.int (nI (n))), some (.int (nI (k + 1)))] d_ch_enter_47 rfl rfl rfl rfl ?_
      refine Ex_goto 24 d_ch_enter_50 rfl ?_
      exact ih (k + 1) (by omega) _ ⟨BiM_s hI.1 hs3 (by omega), (hI.2.sL rfl).sL rfl⟩
theorem ch_enter_s {S : mj_S} {h : mj_H} (hs : HT h) {K : SK} (hK : KC K h) (hO : KO K) {s : Nat} {cd : Nat → Nat} (hz : mI h 8 1 = nI s) (hs3 : s < 320) {n : Nat} (hn : n < 8 * K.1) (hB : BiC K s cd h) : Cl S ch_enter [.ref 8, .int (nI (n))] h (fun r h' => r = none ∧ BiC K (s + 1) (va_up cd s n) h' ∧ mI h' 8 1 = nI (s + 1) ∧ mI h' 9 s = nI n ∧ Fr (fun a k => a = 10 ∨ (a = 9 ∧ k = s) ∨ (a = 8 ∧ k = 1)) h h') := by
  show Ex S ch_enter 0 [some (.ref 8), some (.int (nI (n))), none] [] h _
  have hn4 := HT_n hs
  have hK0 : KC K (wI h 9 s (nI n)) := KC_B hs (Fr.rf.sI (by unfold WBo; omega)) hK
  refine Ex_aload_n d_ch_enter_0 rfl ?_
  refine Ex_getIE (y := (nI (s))) d_ch_enter_1 pf_ch_25 rfl (t_8 hs) hz ?_
  refine Ex_aload_n d_ch_enter_4 rfl ?_
  refine Ex_getR (v := .ref 9) d_ch_enter_5 pf_ch_13 rfl (t_8 hs) (r_8_2 hs) ?_
  refine Ex_arraylength d_ch_enter_8 (t_9 hs) (by decide) ?_
  refine Ex_icmp_geN (s) (320) 63 d_ch_enter_9 rfl rfl rfl (by omega) (by omega) (fun hc9 => ?_) (fun hc9 => ?_)
  · exfalso; omega
  · refine Ex_aload_n d_ch_enter_12 rfl ?_
    refine Ex_getR (v := .ref 9) d_ch_enter_13 pf_ch_13 rfl (t_8 hs) (r_8_2 hs) ?_
    refine Ex_aload_n d_ch_enter_16 rfl ?_
    refine Ex_getIE (y := (nI (s))) d_ch_enter_17 pf_ch_25 rfl (t_8 hs) hz ?_
    refine Ex_iload_n d_ch_enter_20 rfl ?_
    refine Ex_iastoreN (a := s) d_ch_enter_21 (t_9 hs) rfl (by omega) (by decide) ?_
    refine Ex_iconst d_ch_enter_22 ic_0 ?_
    refine Ex_istore_n [some (.ref 8), some (.int (nI (n))), some (.int (0))] d_ch_enter_23 (Nat.le_of_ble_eq_true rfl) rfl ?_
    refine ch_enter_L (K := K) (s := s) (cd := cd) (n := n) (show HT (wI h 9 s (nI n)) from hs) hK0 hO (by rw [mI_oth (Or.inl (by decide))]; exact hz) hs3 hn (fun h1 hI1 => ?_) 4 0 rfl _ ⟨fun e c w he hc hw => by rw [if_neg (Nat.not_lt_zero _)]; exact hB e c w he hc hw, Fr.rf⟩
    have hs1 := hI1.2.ht (show HT (wI h 9 s (nI n)) from hs) W10_st
    have hz1 : mI h1 8 1 = nI s := by rw [hI1.2.I (by show 8 < mN h; omega) (by unfold W10; omega), mI_oth (Or.inl (by decide))]; exact hz
    refine Ex_aload_n d_ch_enter_53 rfl ?_
    refine Ex_dup rfl d_ch_enter_54 ?_
    refine Ex_getIE (y := (nI (s))) d_ch_enter_55 pf_ch_25 rfl (t_8 hs1) hz1 ?_
    refine Ex_iconst d_ch_enter_58 ic_1 ?_
    refine Ex_iaddN (s) (1) d_ch_enter_59 rfl rfl ?_
    refine Ex_putI d_ch_enter_60 pf_ch_25 (Or.inl rfl) (t_8 hs1) (Or.inl rfl) ?_
    refine Ex_return d_ch_enter_63 rfl ?_
    refine ⟨rfl, fun e c w he hc hw => ?_, mI_self _ _ _ _, ?_, ?_⟩
    · have z := hI1.1 e c w he hc hw
      rw [if_pos he] at z
      exact z
    · rw [mI_oth (Or.inl (by decide)), hI1.2.I (by show 9 < mN h; omega) (by unfold W10; omega), mI_self]
    · exact ((Fr.tr (W := fun a k => a = 10 ∨ (a = 9 ∧ k = s) ∨ (a = 8 ∧ k = 1)) (Fr.rf.sI (Or.inr (Or.inl ⟨rfl, rfl⟩))) (hI1.2.mono (fun a k z => Or.inl z))).sI (Or.inr (Or.inr ⟨rfl, rfl⟩)))
def gaI (K : SK) (F : SF) (f N : Nat) (h h1 : mj_H) : Prop := (∃ s cd, EnO (okN K F f) N s cd ∧ mI h1 8 1 = nI s ∧ (∀ c, c < s → mI h1 9 c = nI (cd c)) ∧ BiC K s cd h1) ∧ Fr WBo h h1
theorem gaI_n {K : SK} {F : SF} {f N : Nat} {h h1 : mj_H} (z : gaI K F f N h h1) (hn : ¬ okN K F f N) : gaI K F f (N + 1) h h1 := by
  obtain ⟨⟨s, cd, z1, z2⟩, z3⟩ := z
  exact ⟨⟨s, cd, EnO_n z1 hn, z2⟩, z3⟩
theorem gaI_ns {K : SK} {F : SF} {f N : Nat} {h h1 : mj_H} (z : gaI K F f N h h1) : ∀ d, (∀ k, N ≤ k → k < N + d → ¬ okN K F f k) → gaI K F f (N + d) h h1
  | 0, _ => z
  | d + 1, hn => gaI_n (gaI_ns z d (fun k h1 h2 => hn k h1 (by omega))) (hn (N + d) (by omega) (by omega))
theorem gaI_s {K : SK} {F : SF} {f N s : Nat} {cd : Nat → Nat} {h h1 h2 : mj_H} (hs : HT h) (z1 : EnO (okN K F f) N s cd) (z3 : ∀ c, c < s → mI h1 9 c = nI (cd c)) (fr : Fr WBo h h1) (hn : okN K F f N) (w1 : BiC K (s + 1) (va_up cd s N) h2) (w2 : mI h2 8 1 = nI (s + 1)) (w3 : mI h2 9 s = nI N) (w4 : Fr (fun a k => a = 10 ∨ (a = 9 ∧ k = s) ∨ (a = 8 ∧ k = 1)) h1 h2) : gaI K F f (N + 1) h h2 := by
  have hn4 := HT_n (fr.ht hs WBo_st)
  refine ⟨⟨s + 1, va_up cd s N, EnO_s z1 hn, w2, fun c hc => ?_, w1⟩, fr.tr (w4.mono (by intro a k; unfold WBo; omega))⟩
  unfold va_up
  by_cases q : c = s
  · rw [if_pos q, q]; exact w3
  · rw [if_neg q, w4.I (by omega) (by omega)]; exact z3 c (by omega)
theorem ch_gather_I {S : mj_S} {Q : Option Value → mj_H → Prop} {h : mj_H} (hs : HT h) {K : SK} (hK : KC K h) (hO : KO K) {F : SF} {Y : OW} (hFO : FO K.1 F) {f a b c d : Nat} (hf : f < F.1) (hx : FlC1 F Y h f a b c d) {k : Nat} (hk : k < K.1) (hst : 0 < fS F f k)
    (kx : ∀ h1 : mj_H, gaI K F f (8 * k + 8) h h1 → Ex S ch_gather 71 [some (.ref 8), some (.ref (a)), some (.int (nI (k))), some (.int (nI (8)))] [] h1 Q) : ∀ d m : Nat, m + d = 8 → ∀ h1 : mj_H, gaI K F f (8 * k + m) h h1 → Ex S ch_gather 28 [some (.ref 8), some (.ref (a)), some (.int (nI (k))), some (.int (nI (m)))] [] h1 Q := by
  intro d
  induction d with
  | zero =>
    intro m hkk h1 hI
    obtain rfl : 8 = m := by omega
    have hn4 := HT_n hs
    have hk40 := hO.1
    have hs1 := hI.2.ht hs WBo_st
    have hK1 := KC_B hs hI.2 hK
    have hx1 := FlC1_B hs hI.2 hx
    refine Ex_iload_n d_ch_gather_28 rfl ?_
    refine Ex_bipush d_ch_gather_29 bp_8 ?_
    refine Ex_icmp_geN (8) (8) 71 d_ch_gather_31 rfl rfl rfl (by omega) (by omega) (fun hc31 => ?_) (fun hc31 => ?_)
    · exact kx h1 hI
    · exfalso; omega
  | succ d ih =>
    intro m hkk h1 hI
    have hn4 := HT_n hs
    have hk40 := hO.1
    have hs1 := hI.2.ht hs WBo_st
    have hK1 := KC_B hs hI.2 hK
    have hx1 := FlC1_B hs hI.2 hx
    have hs99 := ((hFO.2.2 f hf).2.2 k (by omega)).1
    have hl8 := kLie_lt (m := m) hO hk
    refine Ex_iload_n d_ch_gather_28 rfl ?_
    refine Ex_bipush d_ch_gather_29 bp_8 ?_
    refine Ex_icmp_geN (m) (8) 71 d_ch_gather_31 rfl rfl rfl (by omega) (by omega) (fun hc31 => ?_) (fun hc31 => ?_)
    · exfalso; omega
    · refine Ex_aload_n d_ch_gather_34 rfl ?_
      refine Ex_iload_n d_ch_gather_35 rfl ?_
      refine Ex_pV1 (v := .int (nI (fS F f k))) d_ch_gather_36 pk_ch_gather_38 hx1.2.1.2.1 (fl_stockOf_s hFO hf hx1 (by omega)) ?_
      refine Ex_if_leN (fS F f k) 71 d_ch_gather_39 rfl rfl (by omega) (fun hc39 => ?_) (fun hc39 => ?_)
      · exfalso; omega
      · refine Ex_aload_n d_ch_gather_42 rfl ?_
        refine Ex_getR (v := .ref 1) d_ch_gather_43 pf_ch_21 rfl (t_8 hs1) (r_8_0 hs1) ?_
        refine Ex_iload_n d_ch_gather_46 rfl ?_
        refine Ex_iload_n d_ch_gather_47 rfl ?_
        refine Ex_pV2 (v := .int (nI (kLie K k m))) d_ch_gather_48 pk_ch_gather_44 (t_1 hs1) (ki_lies_s hs1 hK1 hO hk (by omega)) ?_
        refine Ex_iload_n d_ch_gather_51 rfl ?_
        refine Ex_icmp_neN (kLie K k m) (m) 65 d_ch_gather_52 rfl rfl rfl (by omega) (by omega) (fun hc52 => ?_) (fun hc52 => ?_)
        · refine Ex_iincN (m) 1 [some (.ref 8), some (.ref (a)), some (.int (nI (k))), some (.int (nI (m + 1)))] d_ch_gather_65 rfl rfl rfl rfl ?_
          refine Ex_goto 28 d_ch_gather_68 rfl ?_
          exact ih (m + 1) (by omega) _ (gaI_n (N := 8 * k + m) hI (fun z => hc52 (by have := z.2; rw [show (8 * k + m) / 8 = k by omega, show (8 * k + m) % 8 = m by omega] at this; exact this)))
        · obtain ⟨⟨s, cd, z1, z2, z3, z4⟩, fr⟩ := hI
          have hs8 := EnO_le z1
          refine Ex_aload_n d_ch_gather_55 rfl ?_
          refine Ex_bipush d_ch_gather_56 bp_8 ?_
          refine Ex_iload_n d_ch_gather_58 rfl ?_
          refine Ex_imulN (8) (k) d_ch_gather_59 rfl rfl ?_
          refine Ex_iload_n d_ch_gather_60 rfl ?_
          refine Ex_iaddN (8 * k) (m) d_ch_gather_61 rfl rfl ?_
          refine Ex_cV1 d_ch_gather_62 pk_ch_gather_48 (t_8 hs1) (ch_enter_s hs1 hK1 hO z2 (by omega) (n := 8 * k + m) (by omega) z4) ?_
          rintro rv h2 ⟨rfl, w1, w2, w3, w4⟩
          show Ex S ch_gather 65 [some (.ref 8), some (.ref (a)), some (.int (nI (k))), some (.int (nI (m)))] [] h2 _
          refine Ex_iincN (m) 1 [some (.ref 8), some (.ref (a)), some (.int (nI (k))), some (.int (nI (m + 1)))] d_ch_gather_65 rfl rfl rfl rfl ?_
          refine Ex_goto 28 d_ch_gather_68 rfl ?_
          exact ih (m + 1) (by omega) _ (gaI_s (N := 8 * k + m) hs z1 z3 fr ⟨by rw [show (8 * k + m) / 8 = k by omega]; exact hst, by rw [show (8 * k + m) / 8 = k by omega, show (8 * k + m) % 8 = m by omega]; exact hc52⟩ w1 w2 w3 w4)
theorem ch_gather_L {S : mj_S} {Q : Option Value → mj_H → Prop} {h : mj_H} (hs : HT h) {K : SK} (hK : KC K h) (hO : KO K) {F : SF} {Y : OW} (hFO : FO K.1 F) {f a b c d : Nat} (hf : f < F.1) (hx : FlC1 F Y h f a b c d)
    (kx : ∀ h1 : mj_H, gaI K F f (8 * K.1) h h1 → Ex S ch_gather 77 [some (.ref 8), some (.ref (a)), some (.int (nI (K.1))), none] [] h1 Q) : ∀ d k : Nat, k + d = K.1 → ∀ h1 : mj_H, gaI K F f (8 * k) h h1 → Ex S ch_gather 15 [some (.ref 8), some (.ref (a)), some (.int (nI (k))), none] [] h1 Q := by
  intro d
  induction d with
  | zero =>
    intro k hkk h1 hI
    obtain rfl : K.1 = k := by omega
    have hn4 := HT_n hs
    have hk40 := hO.1
    have hs1 := hI.2.ht hs WBo_st
    have hK1 := KC_B hs hI.2 hK
    have hx1 := FlC1_B hs hI.2 hx
    refine Ex_iload_n d_ch_gather_15 rfl ?_
    refine Ex_aload_n d_ch_gather_16 rfl ?_
    refine Ex_getR (v := .ref 1) d_ch_gather_17 pf_ch_21 rfl (t_8 hs1) (r_8_0 hs1) ?_
    refine Ex_getIE (y := (nI (K.1))) d_ch_gather_20 pf_ch_35 rfl (t_1 hs1) hK1.1 ?_
    refine Ex_icmp_geN (K.1) (K.1) 77 d_ch_gather_23 rfl rfl rfl (by omega) (by omega) (fun hc23 => ?_) (fun hc23 => ?_)
    · exact kx h1 hI
    · exfalso; omega
  | succ d ih =>
    intro k hkk h1 hI
    have hn4 := HT_n hs
    have hk40 := hO.1
    have hs1 := hI.2.ht hs WBo_st
    have hK1 := KC_B hs hI.2 hK
    have hx1 := FlC1_B hs hI.2 hx
    have hs99 : k < 40 → fS F f k ≤ 99 := fun q => ((hFO.2.2 f hf).2.2 k q).1
    refine Ex_iload_n d_ch_gather_15 rfl ?_
    refine Ex_aload_n d_ch_gather_16 rfl ?_
    refine Ex_getR (v := .ref 1) d_ch_gather_17 pf_ch_21 rfl (t_8 hs1) (r_8_0 hs1) ?_
    refine Ex_getIE (y := (nI (K.1))) d_ch_gather_20 pf_ch_35 rfl (t_1 hs1) hK1.1 ?_
    refine Ex_icmp_geN (k) (K.1) 77 d_ch_gather_23 rfl rfl rfl (by omega) (by omega) (fun hc23 => ?_) (fun hc23 => ?_)
    · exfalso; omega
    · refine Ex_iconst d_ch_gather_26 ic_0 ?_
      refine Ex_istore_n [some (.ref 8), some (.ref (a)), some (.int (nI (k))), some (.int (0))] d_ch_gather_27 (Nat.le_of_ble_eq_true rfl) rfl ?_
      by_cases hst : 0 < fS F f k
      · refine ch_gather_I hs hK hO hFO hf hx (k := k) (by omega) hst (fun h2 hI2 => ?_) 8 0 rfl _ hI
        refine Ex_iincN (k) 1 [some (.ref 8), some (.ref (a)), some (.int (nI (k + 1))), some (.int (nI (8)))] d_ch_gather_71 rfl rfl rfl rfl ?_
        refine Ex_goto 15 d_ch_gather_74 rfl ?_
        refine Ex_forget (ls' := [some (.ref 8), some (.ref (a)), some (.int (nI (k + 1))), none]) (sub_s (sub_s (sub_s (sub_n sub_0)))) ?_
        exact ih (k + 1) (by omega) _ hI2
      · refine Ex_iload_n d_ch_gather_28 rfl ?_
        refine Ex_bipush d_ch_gather_29 bp_8 ?_
        refine Ex_icmp_geN (0) (8) 71 d_ch_gather_31 rfl rfl rfl (by omega) (by omega) (fun hc31 => ?_) (fun hc31 => ?_)
        · exfalso; omega
        · refine Ex_aload_n d_ch_gather_34 rfl ?_
          refine Ex_iload_n d_ch_gather_35 rfl ?_
          refine Ex_pV1 (v := .int (nI (fS F f k))) d_ch_gather_36 pk_ch_gather_38 hx1.2.1.2.1 (fl_stockOf_s hFO hf hx1 (by omega)) ?_
          refine Ex_if_leN (fS F f k) 71 d_ch_gather_39 rfl rfl (by omega) (fun hc39 => ?_) (fun hc39 => ?_)
          · refine Ex_iincN (k) 1 [some (.ref 8), some (.ref (a)), some (.int (nI (k + 1))), some (.int (nI (0)))] d_ch_gather_71 rfl rfl rfl rfl ?_
            refine Ex_goto 15 d_ch_gather_74 rfl ?_
            refine Ex_forget (ls' := [some (.ref 8), some (.ref (a)), some (.int (nI (k + 1))), none]) (sub_s (sub_s (sub_s (sub_n sub_0)))) ?_
            refine ih (k + 1) (by omega) _ ?_
            exact gaI_ns hI 8 (fun j h1 h2 z => hst (by have := z.1; rw [show j / 8 = k by omega] at this; exact this))
          · exfalso; omega
theorem ch_gather_s {S : mj_S} {h : mj_H} (hs : HT h) {K : SK} (hK : KC K h) (hO : KO K) {F : SF} {Y : OW} (hFO : FO K.1 F) {f a b c d : Nat} (hf : f < F.1) (hx : FlC1 F Y h f a b c d) : Cl S ch_gather [.ref 8, .ref (a)] h (fun r h' => r = none ∧ (∃ s cd, CdC K F f s cd h' ∧ BiC K s cd h') ∧ Fr WBo h h') := by
  show Ex S ch_gather 0 [some (.ref 8), some (.ref (a)), none, none] [] h _
  have hn4 := HT_n hs
  refine Ex_aload_n d_ch_gather_0 rfl ?_
  refine Ex_iconst d_ch_gather_1 ic_0 ?_
  refine Ex_putI d_ch_gather_2 pf_ch_25 (Or.inl rfl) (t_8 hs) (Or.inl rfl) ?_
  refine Ex_aload_n d_ch_gather_5 rfl ?_
  refine Ex_getR (v := .ref 10) d_ch_gather_6 pf_ch_17 rfl (t_8 hs) (r_8_3 hs) ?_
  refine Ex_lconst d_ch_gather_9 lc_0 ?_
  refine Ex_cS2 d_ch_gather_10 pk_ch_gather_29 (jd_fillM_s (show HT (wI h 8 1 0) from hs)) ?_
  rintro rv h1 ⟨rfl, w1, w2⟩
  show Ex S ch_gather 13 [some (.ref 8), some (.ref (a)), none, none] [] h1 _
  refine Ex_iconst d_ch_gather_13 ic_0 ?_
  refine Ex_istore_n [some (.ref 8), some (.ref (a)), some (.int (0)), none] d_ch_gather_14 (Nat.le_of_ble_eq_true rfl) rfl ?_
  refine ch_gather_L hs hK hO hFO hf hx (fun h2 hI => ?_) K.1 0 (by omega) h1 ⟨⟨0, fun _ => 0, EnO_z _ _, ?_, fun c hc => absurd hc (Nat.not_lt_zero _), fun e c w he hc hw => ?_⟩, (Fr.rf.sI (W := WBo) (by unfold WBo; omega)).tr (w2.mono W10_B)⟩
  · obtain ⟨⟨s, cd, z1, z2, z3, z4⟩, z5⟩ := hI
    refine Ex_return d_ch_gather_77 rfl ?_
    exact ⟨rfl, ⟨s, cd, ⟨z1, z2, z3⟩, z4⟩, z5⟩
  · rw [w2.I (by show 8 < mN h; omega) (by unfold W10; omega), mI_self]
    rfl
  · rw [w1 _ (by omega)]
    exact ((wdL_0 _ _).mpr (fun i _ => decide_eq_false (fun z => absurd z.1 (Nat.not_lt_zero _)))).symm
