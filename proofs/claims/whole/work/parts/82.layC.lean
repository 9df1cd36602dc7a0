/-! The class: what is left; laying and lifting. -/
def W16 (a k : Nat) : Prop := a = 16
theorem W16_st : ∀ q ∈ statR, ¬ W16 q.1 q.2.1 := by
  have h2 : ∀ q ∈ statR, ¬ (q.1 = 16) := by decide
  exact h2
def fpB (s : Nat) (cd l : Nat → Nat) (u c x : Nat) : Bool := bL s cd l x ^^ decide (x < c ∧ cd x / 8 = u)
def fpI (s : Nat) (cd l : Nat → Nat) (u c : Nat) (h h1 : mj_H) : Prop := Fr W16 h h1 ∧ ∀ w, w < 5 → mL h1 16 w = wdL (fpB s cd l u c) w
theorem fpI_n {s : Nat} {cd l : Nat → Nat} {u c : Nat} {h h1 : mj_H} (z : fpI s cd l u c h h1) (hn : ¬ cd c / 8 = u) : fpI s cd l u (c + 1) h h1 := by
  refine ⟨z.1, fun w hw => ?_⟩
  rw [z.2 w hw]
  refine wdL_c (fun i _ => ?_)
  unfold fpB
  congr 1
  refine decide_eq_decide.mpr ⟨fun y => ⟨by omega, y.2⟩, fun y => ⟨?_, y.2⟩⟩
  rcases Nat.lt_or_ge (64 * w + i) c with q | q
  · exact q
  · exfalso
    have : 64 * w + i = c := by omega
    rw [this] at y
    exact hn y.2
theorem fpI_s {s : Nat} {cd l : Nat → Nat} {u c : Nat} {h h1 : mj_H} (z : fpI s cd l u c h h1) (hc : c < 320) (hn : cd c / 8 = u) : fpI s cd l u (c + 1) h (wL h1 16 (c / 2 ^ 6) (mL h1 16 (c / 2 ^ 6) ^^^ nL (2 ^ (c % 64)))) := by
  have h64 : c / 2 ^ 6 = c / 64 := rfl
  refine ⟨z.1.sL rfl, fun w hw => ?_⟩
  rw [h64]
  by_cases q : w = c / 64
  · rw [q, mL_self, z.2 _ (by omega), wdL_xor1]
    refine wdL_c (fun i _ => ?_)
    unfold fpB
    show ((_ ^^ _) ^^ _) = _
    rw [Bool.xor_assoc]
    congr 1
    by_cases r : 64 * (c / 64) + i = c
    · rw [r, decide_eq_false (by omega), decide_eq_true (show c = c from rfl), decide_eq_true ⟨by omega, hn⟩]; rfl
    · rw [decide_eq_false r, Bool.xor_false]
      exact decide_eq_decide.mpr ⟨fun y => ⟨by omega, y.2⟩, fun y => ⟨by omega, y.2⟩⟩
  · rw [mL_oth (Or.inr q), z.2 w hw]
    refine wdL_c (fun i hi => ?_)
    unfold fpB
    congr 1
    exact decide_eq_decide.mpr ⟨fun y => ⟨by omega, y.2⟩, fun y => ⟨by omega, y.2⟩⟩
theorem LbC_c {s : Nat} {cd l l' : Nat → Nat} {h : mj_H} (hl : ∀ k, 0 < l k ↔ 0 < l' k) (z : LbC s cd l h) : LbC s cd l' h := by
  intro w hw
  rw [z w hw]
  refine wdL_c (fun i _ => ?_)
  unfold bL
  exact decide_eq_decide.mpr ⟨fun y => ⟨y.1, (hl _).mp y.2⟩, fun y => ⟨y.1, (hl _).mpr y.2⟩⟩
theorem fpI_e {s : Nat} {cd l l' : Nat → Nat} {u : Nat} {h h1 : mj_H} (z : fpI s cd l u s h h1) (h1' : ∀ k, k ≠ u → l' k = l k) (h2 : 0 < l' u ↔ ¬ 0 < l u) : LbC s cd l' h1 := by
  intro w hw
  rw [z.2 w hw]
  refine wdL_c (fun i _ => ?_)
  unfold fpB bL
  by_cases q : 64 * w + i < s
  · by_cases r : cd (64 * w + i) / 8 = u
    · rw [r, decide_eq_true (show 64 * w + i < s ∧ u = u from ⟨q, rfl⟩), Bool.xor_true, ← decide_not]
      exact decide_eq_decide.mpr ⟨fun y => ⟨q, h2.mpr (fun x => y ⟨q, x⟩)⟩, fun y x => h2.mp y.2 x.2⟩
    · rw [h1' _ r, decide_eq_false (show ¬ (64 * w + i < s ∧ cd (64 * w + i) / 8 = u) from fun y => r y.2), Bool.xor_false]
  · rw [decide_eq_false (show ¬ (64 * w + i < s ∧ 0 < l (cd (64 * w + i) / 8)) from fun y => q y.1), decide_eq_false (show ¬ (64 * w + i < s ∧ cd (64 * w + i) / 8 = u) from fun y => q y.1), decide_eq_false (show ¬ (64 * w + i < s ∧ 0 < l' (cd (64 * w + i) / 8)) from fun y => q y.1)]
    rfl
theorem bo_flipLeftBits_L {S : mj_S} {Q : Option Value → mj_H → Prop} {h : mj_H} (hs : HT h) {K : SK} (hO : KO K) {F : SF} {f s : Nat} {cd : Nat → Nat} (hT : BT K F f s cd h) {l : Nat → Nat} {u : Nat} (hu : u < 40)
    (kx : ∀ h1 : mj_H, fpI s cd l u s h h1 → Ex S bo_flipLeftBits 49 [some (.ref 7), some (.int (nI (u))), some (.int (nI (s)))] [] h1 Q) : ∀ d c : Nat, c + d = s → ∀ h1 : mj_H, fpI s cd l u c h h1 → Ex S bo_flipLeftBits 2 [some (.ref 7), some (.int (nI (u))), some (.int (nI (c)))] [] h1 Q := by
  intro d
  induction d with
  | zero =>
    intro c hkk h1 hI
    obtain rfl : s = c := by omega
    have hn4 := HT_n hs
    have hk40 := hO.1
    have hs320 := EnO_le hT.1.1
    have hs1 := hI.1.ht hs W16_st
    have hT1 : BT K F f s cd h1 := BT_fr hs hI.1 (by unfold W16; omega) (by unfold W16; omega) (by unfold W16; omega) (by unfold W16; omega) hT
    refine Ex_iload_n d_bo_flipLeftBits_2 rfl ?_
    refine Ex_aload_n d_bo_flipLeftBits_3 rfl ?_
    refine Ex_getR (v := .ref 8) d_bo_flipLeftBits_4 pf_bo_41 rfl (t_7 hs1) (r_7_0 hs1) ?_
    refine Ex_getIE (y := (nI (s))) d_bo_flipLeftBits_7 pf_bo_129 rfl (t_8 hs1) hT1.1.2.1 ?_
    refine Ex_icmp_geN (s) (s) 49 d_bo_flipLeftBits_10 rfl rfl rfl (by omega) (by omega) (fun hc10 => ?_) (fun hc10 => ?_)
    · exact kx h1 hI
    · exfalso; omega
  | succ d ih =>
    intro c hkk h1 hI
    have hn4 := HT_n hs
    have hk40 := hO.1
    have hs320 := EnO_le hT.1.1
    have hs1 := hI.1.ht hs W16_st
    have hT1 : BT K F f s cd h1 := BT_fr hs hI.1 (by unfold W16; omega) (by unfold W16; omega) (by unfold W16; omega) (by unfold W16; omega) hT
    have hcd := (hT.1.1.1 c (by omega)).1
    refine Ex_iload_n d_bo_flipLeftBits_2 rfl ?_
    refine Ex_aload_n d_bo_flipLeftBits_3 rfl ?_
    refine Ex_getR (v := .ref 8) d_bo_flipLeftBits_4 pf_bo_41 rfl (t_7 hs1) (r_7_0 hs1) ?_
    refine Ex_getIE (y := (nI (s))) d_bo_flipLeftBits_7 pf_bo_129 rfl (t_8 hs1) hT1.1.2.1 ?_
    refine Ex_icmp_geN (c) (s) 49 d_bo_flipLeftBits_10 rfl rfl rfl (by omega) (by omega) (fun hc10 => ?_) (fun hc10 => ?_)
    · exfalso; omega
    · refine Ex_aload_n d_bo_flipLeftBits_13 rfl ?_
      refine Ex_getR (v := .ref 8) d_bo_flipLeftBits_14 pf_bo_41 rfl (t_7 hs1) (r_7_0 hs1) ?_
      refine Ex_iload_n d_bo_flipLeftBits_17 rfl ?_
      refine Ex_pV1 (v := .int (nI (cd c / 8))) d_bo_flipLeftBits_18 pk_bo_flipLeftBits_123 (t_8 hs1) (ch_kindOf_v hs1 hO hT1.1 (by omega)) ?_
      refine Ex_iload_n d_bo_flipLeftBits_21 rfl ?_
      refine Ex_icmp_neN (cd c / 8) (u) 43 d_bo_flipLeftBits_22 rfl rfl rfl (by omega) (by omega) (fun hc22 => ?_) (fun hc22 => ?_)
      · refine Ex_iincN (c) 1 [some (.ref 7), some (.int (nI (u))), some (.int (nI (c + 1)))] d_bo_flipLeftBits_43 rfl rfl rfl rfl ?_
        refine Ex_goto 2 d_bo_flipLeftBits_46 rfl ?_
        exact ih (c + 1) (by omega) _ (fpI_n hI hc22)
      · refine Ex_aload_n d_bo_flipLeftBits_25 rfl ?_
        refine Ex_getR (v := .ref 16) d_bo_flipLeftBits_26 pf_bo_34 rfl (t_7 hs1) (r_7_9 hs1) ?_
        refine Ex_iload_n d_bo_flipLeftBits_29 rfl ?_
        refine Ex_bipush d_bo_flipLeftBits_30 bp_6 ?_
        refine Ex_ishr d_bo_flipLeftBits_32 ?_
        rw [show (((nI (c)) >>> ((6 : Int32) &&& 31)) : Int32) = (nI (c / 2 ^ 6)) from (nI_shr (j := 6) (by omega) (by decide))]
        refine Ex_dup2 rfl rfl d_bo_flipLeftBits_33 ?_
        refine Ex_laloadN (a := c / 2 ^ 6) (w := (mL h1 16 (c / 2 ^ 6))) d_bo_flipLeftBits_34 (t_16 hs1) rfl (by omega) (by decide) rfl ?_
        refine Ex_lconst d_bo_flipLeftBits_35 lc_1 ?_
        refine Ex_iload_n d_bo_flipLeftBits_36 rfl ?_
        refine Ex_bipush d_bo_flipLeftBits_37 bp_63 ?_
        refine Ex_iand d_bo_flipLeftBits_39 ?_
        rw [show (((nI (c)) &&& (63 : Int32)) : Int32) = (nI (c % 64)) from (nI_63 _)]
        refine Ex_lshl d_bo_flipLeftBits_40 ?_
        rw [show (1 <<< ((nI (c % 64)).toInt64 &&& 63) : Int64) = nL (2 ^ (c % 64)) from (one_sh _ (Nat.mod_lt _ (by decide)))]
        refine Ex_lxor d_bo_flipLeftBits_41 ?_
        refine Ex_lastoreN (a := c / 2 ^ 6) d_bo_flipLeftBits_42 (t_16 hs1) rfl (by omega) (by decide) ?_
        refine Ex_iincN (c) 1 [some (.ref 7), some (.int (nI (u))), some (.int (nI (c + 1)))] d_bo_flipLeftBits_43 rfl rfl rfl rfl ?_
        refine Ex_goto 2 d_bo_flipLeftBits_46 rfl ?_
        exact ih (c + 1) (by omega) _ (fpI_s hI (by omega) hc22)
theorem bo_flipLeftBits_s {S : mj_S} {h : mj_H} (hs : HT h) {K : SK} (hO : KO K) {F : SF} {f s : Nat} {cd : Nat → Nat} (hT : BT K F f s cd h) {l : Nat → Nat} {u : Nat} (hu : u < 40) (hLb : LbC s cd l h) : Cl S bo_flipLeftBits [.ref 7, .int (nI (u))] h (fun r h' => r = none ∧ fpI s cd l u s h h') := by
  show Ex S bo_flipLeftBits 0 [some (.ref 7), some (.int (nI (u))), none] [] h _
  refine Ex_iconst d_bo_flipLeftBits_0 ic_0 ?_
  refine Ex_istore_n [some (.ref 7), some (.int (nI (u))), some (.int (0))] d_bo_flipLeftBits_1 (Nat.le_of_ble_eq_true rfl) rfl ?_
  refine bo_flipLeftBits_L (l := l) hs hO hT hu (fun h1 hI => ?_) s 0 (by omega) h ⟨Fr.rf, fun w hw => ?_⟩
  · refine Ex_return d_bo_flipLeftBits_49 rfl ?_
    exact ⟨rfl, hI⟩
  · rw [hLb w hw]
    refine wdL_c (fun i _ => ?_)
    unfold fpB
    rw [decide_eq_false (fun z => absurd z.1 (Nat.not_lt_zero _)), Bool.xor_false]
def W1516 (a k : Nat) : Prop := a = 15 ∨ a = 16
theorem W1516_st : ∀ q ∈ statR, ¬ W1516 q.1 q.2.1 := by
  have h2 : ∀ q ∈ statR, ¬ (q.1 = 15 ∨ q.1 = 16) := by decide
  exact h2
theorem W16_15 : ∀ a k, W16 a k → W1516 a k := by intro a k; unfold W16 W1516; omega
def chP (s : Nat) (cd l' : Nat → Nat) (b : Bool) (h : mj_H) : Option Value → mj_H → Prop := fun r h' => r = some (.int (bI b)) ∧ LfC l' h' ∧ LbC s cd l' h' ∧ Fr W1516 h h'
theorem LfC_s {l : Nat → Nat} {h : mj_H} (z : LfC l h) (u v : Nat) : LfC (leS l u v) (wI h 15 u (nI v)) := by
  intro k hk
  unfold leS va_up
  by_cases q : k = u
  · rw [if_pos q, q, mI_self]
  · rw [if_neg q, mI_oth (Or.inr q)]; exact z k hk
theorem leS_o {l : Nat → Nat} {u v k : Nat} (h : k ≠ u) : leS l u v k = l k := if_neg h
theorem leS_u {l : Nat → Nat} {u v : Nat} : leS l u v u = v := if_pos rfl
theorem bo_changeLeft_dn {S : mj_S} {h : mj_H} (hs : HT h) {K : SK} (hO : KO K) {F : SF} {f s : Nat} {cd : Nat → Nat} (hT : BT K F f s cd h) {l : Nat → Nat} (hLf : LfC l h) (hLb : LbC s cd l h) {c : Nat} (hc : c < s) (h0 : 0 < l (cd c / 8)) (hl9 : ∀ k, k < 40 → l k ≤ 99) : Cl S bo_changeLeft [.ref 7, .int (nI (c)), .int (-1)] h (chP s cd (leS l (cd c / 8) (l (cd c / 8) - 1)) (decide (l (cd c / 8) - 1 = 0)) h) := by
  show Ex S bo_changeLeft 0 [some (.ref 7), some (.int (nI (c))), some (.int (-1)), none, none, none] [] h _
  have hn4 := HT_n hs
  have hk40 := hO.1
  have hcd := (hT.1.1.1 c hc).1
  have hu : cd c / 8 < 40 := by omega
  have hl99 := hl9 (cd c / 8) hu
  have fr15 : Fr (fun a _ => a = 15) h (wI h 15 (cd c / 8) (nI (l (cd c / 8) - 1))) := Fr.rf.sI rfl
  have hT2 : BT K F f s cd (wI h 15 (cd c / 8) (nI (l (cd c / 8) - 1))) := BT_fr hs fr15 (by omega) (by omega) (by omega) (by omega) hT
  have hLb2 : LbC s cd l (wI h 15 (cd c / 8) (nI (l (cd c / 8) - 1))) := LbC_fr hs fr15 (by omega) hLb
  refine Ex_aload_n d_bo_changeLeft_0 rfl ?_
  refine Ex_getR (v := .ref 8) d_bo_changeLeft_1 pf_bo_41 rfl (t_7 hs) (r_7_0 hs) ?_
  refine Ex_iload_n d_bo_changeLeft_4 rfl ?_
  refine Ex_pV1 (v := .int (nI (cd c / 8))) d_bo_changeLeft_5 pk_bo_changeLeft_123 (t_8 hs) (ch_kindOf_v hs hO hT.1 hc) ?_
  refine Ex_istore_n [some (.ref 7), some (.int (nI (c))), some (.int (-1)), some (.int (nI (cd c / 8))), none, none] d_bo_changeLeft_8 (Nat.le_of_ble_eq_true rfl) rfl ?_
  refine Ex_iload_n d_bo_changeLeft_9 rfl ?_
  refine Ex_if_ltN (cd c / 8) 19 d_bo_changeLeft_10 rfl rfl (by omega) (fun hc10 => ?_) (fun hc10 => ?_)
  · exfalso; omega
  · refine Ex_iload_n d_bo_changeLeft_13 rfl ?_
    refine Ex_bipush d_bo_changeLeft_14 bp_40 ?_
    refine Ex_icmp_ltN (cd c / 8) (40) 21 d_bo_changeLeft_16 rfl rfl rfl (by omega) (by omega) (fun hc16 => ?_) (fun hc16 => ?_)
    · refine Ex_aload_n d_bo_changeLeft_21 rfl ?_
      refine Ex_getR (v := .ref 15) d_bo_changeLeft_22 pf_bo_29 rfl (t_7 hs) (r_7_8 hs) ?_
      refine Ex_iload_n d_bo_changeLeft_25 rfl ?_
      refine Ex_ialoadN (a := cd c / 8) (y := (nI (l (cd c / 8)))) d_bo_changeLeft_26 (t_15 hs) rfl (by omega) (by decide) (hLf (cd c / 8) hu) ?_
      refine Ex_if_leN (l (cd c / 8)) 34 d_bo_changeLeft_27 rfl rfl (by omega) (fun hc27 => ?_) (fun hc27 => ?_)
      · exfalso; omega
      · refine Ex_iconst d_bo_changeLeft_30 ic_1 ?_
        refine Ex_goto 35 d_bo_changeLeft_31 rfl ?_
        refine Ex_istore [some (.ref 7), some (.int (nI (c))), some (.int (-1)), some (.int (nI (cd c / 8))), some (.int (1)), none] d_bo_changeLeft_35 (Nat.le_of_ble_eq_true rfl) rfl ?_
        refine Ex_aload_n d_bo_changeLeft_37 rfl ?_
        refine Ex_getR (v := .ref 15) d_bo_changeLeft_38 pf_bo_29 rfl (t_7 hs) (r_7_8 hs) ?_
        refine Ex_iload_n d_bo_changeLeft_41 rfl ?_
        refine Ex_dup2 rfl rfl d_bo_changeLeft_42 ?_
        refine Ex_ialoadN (a := cd c / 8) (y := (nI (l (cd c / 8)))) d_bo_changeLeft_43 (t_15 hs) rfl (by omega) (by decide) (hLf (cd c / 8) hu) ?_
        refine Ex_iload_n d_bo_changeLeft_44 rfl ?_
        refine Ex_iaddZ (((l (cd c / 8) : Nat) : Int)) ((-1)) d_bo_changeLeft_45 (nIJ _) (by decide) ?_
        rw [show ((J ((((l (cd c / 8) : Nat) : Int)) + ((-1)))) : Int32) = (nI (l (cd c / 8) - 1)) from (by rw [nIJ]; congr 1; omega)]
        refine Ex_iastoreN (a := cd c / 8) d_bo_changeLeft_46 (t_15 hs) rfl (by omega) (by decide) ?_
        refine Ex_iload d_bo_changeLeft_47 rfl ?_
        refine Ex_aload_n d_bo_changeLeft_49 rfl ?_
        refine Ex_getR (v := .ref 15) d_bo_changeLeft_50 pf_bo_29 rfl (t_7 hs) (r_7_8 hs) ?_
        refine Ex_iload_n d_bo_changeLeft_53 rfl ?_
        refine Ex_ialoadN (a := cd c / 8) (y := (nI (l (cd c / 8) - 1))) d_bo_changeLeft_54 (t_15 hs) rfl (by omega) (by decide) (mI_self _ _ _ _) ?_
        refine Ex_if_leN (l (cd c / 8) - 1) 62 d_bo_changeLeft_55 rfl rfl (by omega) (fun hc55 => ?_) (fun hc55 => ?_)
        · refine Ex_iconst d_bo_changeLeft_62 ic_0 ?_
          refine Ex_icmp_eqN (1) (0) 70 d_bo_changeLeft_63 rfl rfl rfl (by omega) (by omega) (fun hc63 => ?_) (fun hc63 => ?_)
          · exact absurd hc63 (by decide)
          · refine Ex_iconst d_bo_changeLeft_66 ic_1 ?_
            refine Ex_goto 71 d_bo_changeLeft_67 rfl ?_
            refine Ex_istore [some (.ref 7), some (.int (nI (c))), some (.int (-1)), some (.int (nI (cd c / 8))), some (.int (1)), some (.int (1))] d_bo_changeLeft_71 (Nat.le_of_ble_eq_true rfl) rfl ?_
            refine Ex_iload d_bo_changeLeft_73 rfl ?_
            refine Ex_if_eqN (1) 83 d_bo_changeLeft_75 rfl rfl (by omega) (fun hc75 => ?_) (fun hc75 => ?_)
            · exact absurd hc75 (by decide)
            · refine Ex_aload_n d_bo_changeLeft_78 rfl ?_
              refine Ex_iload_n d_bo_changeLeft_79 rfl ?_
              refine Ex_cV1 d_bo_changeLeft_80 pk_bo_changeLeft_126 (t_7 hs) (bo_flipLeftBits_s (l := l) (show HT (wI h 15 (cd c / 8) (nI (l (cd c / 8) - 1))) from hs) hO hT2 hu hLb2) ?_
              rintro rv h2 ⟨rfl, w1⟩
              show Ex S bo_changeLeft 83 [some (.ref 7), some (.int (nI (c))), some (.int (-1)), some (.int (nI (cd c / 8))), some (.int (1)), some (.int (1))] [] h2 _
              refine Ex_iload d_bo_changeLeft_83 rfl ?_
              refine Ex_zreturn d_bo_changeLeft_85 rfl (by decide) ?_
              refine ⟨by rw [decide_eq_true (by omega)]; rfl, ?_, ?_, ?_⟩
              · exact LfC_fr (show HT (wI h 15 (cd c / 8) (nI (l (cd c / 8) - 1))) from hs) w1.1 (by unfold W16; omega) (LfC_s hLf _ _)
              · refine fpI_e w1 (fun k hk => leS_o hk) ?_
                rw [leS_u]
                omega
              · exact (Fr.rf.sI (W := W1516) (Or.inl rfl)).tr (w1.1.mono W16_15)
        · refine Ex_iconst d_bo_changeLeft_58 ic_1 ?_
          refine Ex_goto 63 d_bo_changeLeft_59 rfl ?_
          refine Ex_icmp_eqN (1) (1) 70 d_bo_changeLeft_63 rfl rfl rfl (by omega) (by omega) (fun hc63 => ?_) (fun hc63 => ?_)
          · refine Ex_iconst d_bo_changeLeft_70 ic_0 ?_
            refine Ex_istore [some (.ref 7), some (.int (nI (c))), some (.int (-1)), some (.int (nI (cd c / 8))), some (.int (1)), some (.int (0))] d_bo_changeLeft_71 (Nat.le_of_ble_eq_true rfl) rfl ?_
            refine Ex_iload d_bo_changeLeft_73 rfl ?_
            refine Ex_if_eqN (0) 83 d_bo_changeLeft_75 rfl rfl (by omega) (fun hc75 => ?_) (fun hc75 => ?_)
            · refine Ex_iload d_bo_changeLeft_83 rfl ?_
              refine Ex_zreturn d_bo_changeLeft_85 rfl (by decide) ?_
              refine ⟨by rw [decide_eq_false (by omega)]; rfl, ?_, ?_, ?_⟩
              · exact LfC_s hLf _ _
              · refine LbC_c (l := l) (fun k => ?_) hLb2
                by_cases q : k = cd c / 8
                · rw [q, leS_u]; omega
                · rw [leS_o q]
              · exact Fr.rf.sI (W := W1516) (Or.inl rfl)
            · exact absurd hc75 (by decide)
          · exact absurd hc63 (by decide)
    · exfalso; omega
theorem bo_changeLeft_up {S : mj_S} {h : mj_H} (hs : HT h) {K : SK} (hO : KO K) {F : SF} {f s : Nat} {cd : Nat → Nat} (hT : BT K F f s cd h) {l : Nat → Nat} (hLf : LfC l h) (hLb : LbC s cd l h) {c : Nat} (hc : c < s) (hl9 : ∀ k, k < 40 → l k ≤ 99) : Cl S bo_changeLeft [.ref 7, .int (nI (c)), .int (1)] h (chP s cd (leS l (cd c / 8) (l (cd c / 8) + 1)) (decide (l (cd c / 8) = 0)) h) := by
  show Ex S bo_changeLeft 0 [some (.ref 7), some (.int (nI (c))), some (.int (1)), none, none, none] [] h _
  have hn4 := HT_n hs
  have hk40 := hO.1
  have hcd := (hT.1.1.1 c hc).1
  have hu : cd c / 8 < 40 := by omega
  have hl99 := hl9 (cd c / 8) hu
  have fr15 : Fr (fun a _ => a = 15) h (wI h 15 (cd c / 8) (nI (l (cd c / 8) + 1))) := Fr.rf.sI rfl
  have hT2 : BT K F f s cd (wI h 15 (cd c / 8) (nI (l (cd c / 8) + 1))) := BT_fr hs fr15 (by omega) (by omega) (by omega) (by omega) hT
  have hLb2 : LbC s cd l (wI h 15 (cd c / 8) (nI (l (cd c / 8) + 1))) := LbC_fr hs fr15 (by omega) hLb
  refine Ex_aload_n d_bo_changeLeft_0 rfl ?_
  refine Ex_getR (v := .ref 8) d_bo_changeLeft_1 pf_bo_41 rfl (t_7 hs) (r_7_0 hs) ?_
  refine Ex_iload_n d_bo_changeLeft_4 rfl ?_
  refine Ex_pV1 (v := .int (nI (cd c / 8))) d_bo_changeLeft_5 pk_bo_changeLeft_123 (t_8 hs) (ch_kindOf_v hs hO hT.1 hc) ?_
  refine Ex_istore_n [some (.ref 7), some (.int (nI (c))), some (.int (1)), some (.int (nI (cd c / 8))), none, none] d_bo_changeLeft_8 (Nat.le_of_ble_eq_true rfl) rfl ?_
  refine Ex_iload_n d_bo_changeLeft_9 rfl ?_
  refine Ex_if_ltN (cd c / 8) 19 d_bo_changeLeft_10 rfl rfl (by omega) (fun hc10 => ?_) (fun hc10 => ?_)
  · exfalso; omega
  · refine Ex_iload_n d_bo_changeLeft_13 rfl ?_
    refine Ex_bipush d_bo_changeLeft_14 bp_40 ?_
    refine Ex_icmp_ltN (cd c / 8) (40) 21 d_bo_changeLeft_16 rfl rfl rfl (by omega) (by omega) (fun hc16 => ?_) (fun hc16 => ?_)
    · refine Ex_aload_n d_bo_changeLeft_21 rfl ?_
      refine Ex_getR (v := .ref 15) d_bo_changeLeft_22 pf_bo_29 rfl (t_7 hs) (r_7_8 hs) ?_
      refine Ex_iload_n d_bo_changeLeft_25 rfl ?_
      refine Ex_ialoadN (a := cd c / 8) (y := (nI (l (cd c / 8)))) d_bo_changeLeft_26 (t_15 hs) rfl (by omega) (by decide) (hLf (cd c / 8) hu) ?_
      refine Ex_if_leN (l (cd c / 8)) 34 d_bo_changeLeft_27 rfl rfl (by omega) (fun hc27 => ?_) (fun hc27 => ?_)
      · refine Ex_iconst d_bo_changeLeft_34 ic_0 ?_
        refine Ex_istore [some (.ref 7), some (.int (nI (c))), some (.int (1)), some (.int (nI (cd c / 8))), some (.int (0)), none] d_bo_changeLeft_35 (Nat.le_of_ble_eq_true rfl) rfl ?_
        refine Ex_aload_n d_bo_changeLeft_37 rfl ?_
        refine Ex_getR (v := .ref 15) d_bo_changeLeft_38 pf_bo_29 rfl (t_7 hs) (r_7_8 hs) ?_
        refine Ex_iload_n d_bo_changeLeft_41 rfl ?_
        refine Ex_dup2 rfl rfl d_bo_changeLeft_42 ?_
        refine Ex_ialoadN (a := cd c / 8) (y := (nI (l (cd c / 8)))) d_bo_changeLeft_43 (t_15 hs) rfl (by omega) (by decide) (hLf (cd c / 8) hu) ?_
        refine Ex_iload_n d_bo_changeLeft_44 rfl ?_
        refine Ex_iaddN (l (cd c / 8)) (1) d_bo_changeLeft_45 rfl rfl ?_
        refine Ex_iastoreN (a := cd c / 8) d_bo_changeLeft_46 (t_15 hs) rfl (by omega) (by decide) ?_
        refine Ex_iload d_bo_changeLeft_47 rfl ?_
        refine Ex_aload_n d_bo_changeLeft_49 rfl ?_
        refine Ex_getR (v := .ref 15) d_bo_changeLeft_50 pf_bo_29 rfl (t_7 hs) (r_7_8 hs) ?_
        refine Ex_iload_n d_bo_changeLeft_53 rfl ?_
        refine Ex_ialoadN (a := cd c / 8) (y := (nI (l (cd c / 8) + 1))) d_bo_changeLeft_54 (t_15 hs) rfl (by omega) (by decide) (mI_self _ _ _ _) ?_
        refine Ex_if_leN (l (cd c / 8) + 1) 62 d_bo_changeLeft_55 rfl rfl (by omega) (fun hc55 => ?_) (fun hc55 => ?_)
        · refine Ex_iconst d_bo_changeLeft_62 ic_0 ?_
          refine Ex_icmp_eqN (0) (0) 70 d_bo_changeLeft_63 rfl rfl rfl (by omega) (by omega) (fun hc63 => ?_) (fun hc63 => ?_)
          · refine Ex_iconst d_bo_changeLeft_70 ic_0 ?_
            refine Ex_istore [some (.ref 7), some (.int (nI (c))), some (.int (1)), some (.int (nI (cd c / 8))), some (.int (0)), some (.int (0))] d_bo_changeLeft_71 (Nat.le_of_ble_eq_true rfl) rfl ?_
            refine Ex_iload d_bo_changeLeft_73 rfl ?_
            refine Ex_if_eqN (0) 83 d_bo_changeLeft_75 rfl rfl (by omega) (fun hc75 => ?_) (fun hc75 => ?_)
            · refine Ex_iload d_bo_changeLeft_83 rfl ?_
              refine Ex_zreturn d_bo_changeLeft_85 rfl (by decide) ?_
              refine ⟨by rw [decide_eq_false (by omega)]; rfl, ?_, ?_, ?_⟩
              · exact LfC_s hLf _ _
              · refine LbC_c (l := l) (fun k => ?_) hLb2
                by_cases q : k = cd c / 8
                · rw [q, leS_u]; omega
                · rw [leS_o q]
              · exact Fr.rf.sI (W := W1516) (Or.inl rfl)
            · exact absurd hc75 (by decide)
          · exact absurd hc63 (by decide)
        · refine Ex_iconst d_bo_changeLeft_58 ic_1 ?_
          refine Ex_goto 63 d_bo_changeLeft_59 rfl ?_
          refine Ex_icmp_eqN (0) (1) 70 d_bo_changeLeft_63 rfl rfl rfl (by omega) (by omega) (fun hc63 => ?_) (fun hc63 => ?_)
          · exact absurd hc63 (by decide)
          · refine Ex_iconst d_bo_changeLeft_66 ic_1 ?_
            refine Ex_goto 71 d_bo_changeLeft_67 rfl ?_
            refine Ex_istore [some (.ref 7), some (.int (nI (c))), some (.int (1)), some (.int (nI (cd c / 8))), some (.int (0)), some (.int (1))] d_bo_changeLeft_71 (Nat.le_of_ble_eq_true rfl) rfl ?_
            refine Ex_iload d_bo_changeLeft_73 rfl ?_
            refine Ex_if_eqN (1) 83 d_bo_changeLeft_75 rfl rfl (by omega) (fun hc75 => ?_) (fun hc75 => ?_)
            · exact absurd hc75 (by decide)
            · refine Ex_aload_n d_bo_changeLeft_78 rfl ?_
              refine Ex_iload_n d_bo_changeLeft_79 rfl ?_
              refine Ex_cV1 d_bo_changeLeft_80 pk_bo_changeLeft_126 (t_7 hs) (bo_flipLeftBits_s (l := l) (show HT (wI h 15 (cd c / 8) (nI (l (cd c / 8) + 1))) from hs) hO hT2 hu hLb2) ?_
              rintro rv h2 ⟨rfl, w1⟩
              show Ex S bo_changeLeft 83 [some (.ref 7), some (.int (nI (c))), some (.int (1)), some (.int (nI (cd c / 8))), some (.int (0)), some (.int (1))] [] h2 _
              refine Ex_iload d_bo_changeLeft_83 rfl ?_
              refine Ex_zreturn d_bo_changeLeft_85 rfl (by decide) ?_
              refine ⟨by rw [decide_eq_true (by omega)]; rfl, ?_, ?_, ?_⟩
              · exact LfC_fr (show HT (wI h 15 (cd c / 8) (nI (l (cd c / 8) + 1))) from hs) w1.1 (by unfold W16; omega) (LfC_s hLf _ _)
              · refine fpI_e w1 (fun k hk => leS_o hk) ?_
                rw [leS_u]
                omega
              · exact (Fr.rf.sI (W := W1516) (Or.inl rfl)).tr (w1.1.mono W16_15)
      · refine Ex_iconst d_bo_changeLeft_30 ic_1 ?_
        refine Ex_goto 35 d_bo_changeLeft_31 rfl ?_
        refine Ex_istore [some (.ref 7), some (.int (nI (c))), some (.int (1)), some (.int (nI (cd c / 8))), some (.int (1)), none] d_bo_changeLeft_35 (Nat.le_of_ble_eq_true rfl) rfl ?_
        refine Ex_aload_n d_bo_changeLeft_37 rfl ?_
        refine Ex_getR (v := .ref 15) d_bo_changeLeft_38 pf_bo_29 rfl (t_7 hs) (r_7_8 hs) ?_
        refine Ex_iload_n d_bo_changeLeft_41 rfl ?_
        refine Ex_dup2 rfl rfl d_bo_changeLeft_42 ?_
        refine Ex_ialoadN (a := cd c / 8) (y := (nI (l (cd c / 8)))) d_bo_changeLeft_43 (t_15 hs) rfl (by omega) (by decide) (hLf (cd c / 8) hu) ?_
        refine Ex_iload_n d_bo_changeLeft_44 rfl ?_
        refine Ex_iaddN (l (cd c / 8)) (1) d_bo_changeLeft_45 rfl rfl ?_
        refine Ex_iastoreN (a := cd c / 8) d_bo_changeLeft_46 (t_15 hs) rfl (by omega) (by decide) ?_
        refine Ex_iload d_bo_changeLeft_47 rfl ?_
        refine Ex_aload_n d_bo_changeLeft_49 rfl ?_
        refine Ex_getR (v := .ref 15) d_bo_changeLeft_50 pf_bo_29 rfl (t_7 hs) (r_7_8 hs) ?_
        refine Ex_iload_n d_bo_changeLeft_53 rfl ?_
        refine Ex_ialoadN (a := cd c / 8) (y := (nI (l (cd c / 8) + 1))) d_bo_changeLeft_54 (t_15 hs) rfl (by omega) (by decide) (mI_self _ _ _ _) ?_
        refine Ex_if_leN (l (cd c / 8) + 1) 62 d_bo_changeLeft_55 rfl rfl (by omega) (fun hc55 => ?_) (fun hc55 => ?_)
        · refine Ex_iconst d_bo_changeLeft_62 ic_0 ?_
          refine Ex_icmp_eqN (1) (0) 70 d_bo_changeLeft_63 rfl rfl rfl (by omega) (by omega) (fun hc63 => ?_) (fun hc63 => ?_)
          · exact absurd hc63 (by decide)
          · refine Ex_iconst d_bo_changeLeft_66 ic_1 ?_
            refine Ex_goto 71 d_bo_changeLeft_67 rfl ?_
            refine Ex_istore [some (.ref 7), some (.int (nI (c))), some (.int (1)), some (.int (nI (cd c / 8))), some (.int (1)), some (.int (1))] d_bo_changeLeft_71 (Nat.le_of_ble_eq_true rfl) rfl ?_
            refine Ex_iload d_bo_changeLeft_73 rfl ?_
            refine Ex_if_eqN (1) 83 d_bo_changeLeft_75 rfl rfl (by omega) (fun hc75 => ?_) (fun hc75 => ?_)
            · exact absurd hc75 (by decide)
            · refine Ex_aload_n d_bo_changeLeft_78 rfl ?_
              refine Ex_iload_n d_bo_changeLeft_79 rfl ?_
              refine Ex_cV1 d_bo_changeLeft_80 pk_bo_changeLeft_126 (t_7 hs) (bo_flipLeftBits_s (l := l) (show HT (wI h 15 (cd c / 8) (nI (l (cd c / 8) + 1))) from hs) hO hT2 hu hLb2) ?_
              rintro rv h2 ⟨rfl, w1⟩
              show Ex S bo_changeLeft 83 [some (.ref 7), some (.int (nI (c))), some (.int (1)), some (.int (nI (cd c / 8))), some (.int (1)), some (.int (1))] [] h2 _
              refine Ex_iload d_bo_changeLeft_83 rfl ?_
              refine Ex_zreturn d_bo_changeLeft_85 rfl (by decide) ?_
              refine ⟨by rw [decide_eq_true (by omega)]; rfl, ?_, ?_, ?_⟩
              · exact LfC_fr (show HT (wI h 15 (cd c / 8) (nI (l (cd c / 8) + 1))) from hs) w1.1 (by unfold W16; omega) (LfC_s hLf _ _)
              · refine fpI_e w1 (fun k hk => leS_o hk) ?_
                rw [leS_u]
                omega
              · exact (Fr.rf.sI (W := W1516) (Or.inl rfl)).tr (w1.1.mono W16_15)
        · refine Ex_iconst d_bo_changeLeft_58 ic_1 ?_
          refine Ex_goto 63 d_bo_changeLeft_59 rfl ?_
          refine Ex_icmp_eqN (1) (1) 70 d_bo_changeLeft_63 rfl rfl rfl (by omega) (by omega) (fun hc63 => ?_) (fun hc63 => ?_)
          · refine Ex_iconst d_bo_changeLeft_70 ic_0 ?_
            refine Ex_istore [some (.ref 7), some (.int (nI (c))), some (.int (1)), some (.int (nI (cd c / 8))), some (.int (1)), some (.int (0))] d_bo_changeLeft_71 (Nat.le_of_ble_eq_true rfl) rfl ?_
            refine Ex_iload d_bo_changeLeft_73 rfl ?_
            refine Ex_if_eqN (0) 83 d_bo_changeLeft_75 rfl rfl (by omega) (fun hc75 => ?_) (fun hc75 => ?_)
            · refine Ex_iload d_bo_changeLeft_83 rfl ?_
              refine Ex_zreturn d_bo_changeLeft_85 rfl (by decide) ?_
              refine ⟨by rw [decide_eq_false (by omega)]; rfl, ?_, ?_, ?_⟩
              · exact LfC_s hLf _ _
              · refine LbC_c (l := l) (fun k => ?_) hLb2
                by_cases q : k = cd c / 8
                · rw [q, leS_u]; omega
                · rw [leS_o q]
              · exact Fr.rf.sI (W := W1516) (Or.inl rfl)
            · exact absurd hc75 (by decide)
          · exact absurd hc63 (by decide)
    · exfalso; omega
