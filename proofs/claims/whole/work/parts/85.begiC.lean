/-! The class: a board begins. -/
abbrev nL0 : Nat → Pl := fun _ => none
theorem cd_0 (F : SF) (f k : Nat) : cdB F f nL0 k = cT (fT F f k) := by
  unfold cdB
  match fT F f k with
  | none => rfl
  | some t => rfl
theorem okLy_0 (n : Nat) : okLy n nL0 := fun _ => trivial
def cdD (F : SF) (f : Nat) (L : Nat → Pl) (k e : Nat) : Int32 := if 0 ≤ bsd F f k e then cdB F f L (bsd F f k e).toNat else -2
theorem bo_codeAt_d {S : mj_S} {h : mj_H} (hs : HT h) {F : SF} {n : Nat} (hn : n ≤ 40) {f : Nat} (hR : fR F f ≤ 8) (hC : fC F f ≤ 8) {L : Nat → Pl} (hL : okLy n L) (hB : BcC F f L h) {k e : Nat} : Cl S bo_codeAt [.ref 7, .int (J (bsd F f k e))] h (Pu (.int (cdD F f L k e)) h) := by
  unfold cdD
  by_cases q : 0 ≤ bsd F f k e
  · obtain ⟨h1, h2, h3⟩ := bsd_b hR hC q
    rw [if_pos q]
    have z := bo_codeAt_v (S := S) hs hn hL hB h1
    rw [nIJ, ← h3] at z
    exact z
  · rw [if_neg q, bsd_n q]
    exact bo_codeAt_n
theorem ch_colourOf_D {S : mj_S} {h : mj_H} (hs : HT h) {K : SK} (hK : KC K h) (hO : KO K) {F : SF} (hFO : FO K.1 F) {f : Nat} (hf : f < F.1) {L : Nat → Pl} (hL : okLy K.1 L) {k e u : Nat} (hu : u < 4) : Cl S ch_colourOf [.ref 8, .int (cdD F f L k e), .int (nI u)] h (Pu (.int (nI (coS K (lyD F f L k e) u))) h) := by
  have hsz := (hFO.2.2 f hf).1
  unfold cdD lyD
  by_cases q : 0 ≤ bsd F f k e
  · rw [if_pos q, if_pos q]
    exact ch_colourOf_d hs hK hO hFO hf hL (bsd_b (by omega) (by omega) q).1 hu
  · rw [if_neg q, if_neg q]
    exact ch_colourOf_m2
def W13k (k a j : Nat) : Prop := a = 13 ∧ k * 4 ≤ j ∧ j < k * 4 + 4
theorem W13k_st (k : Nat) : ∀ q ∈ statR, ¬ W13k k q.1 q.2.1 := by
  have h2 : ∀ q ∈ statR, ¬ (q.1 = 13) := by decide
  intro q hq z
  exact h2 q hq z.1
theorem W13k_B {k : Nat} : ∀ a j, W13k k a j → WBo a j := by intro a j; unfold W13k WBo; omega
def laI (K : SK) (F : SF) (f : Nat) (L : Nat → Pl) (k n : Nat) (h h1 : mj_H) : Prop := Fr (W13k k) h h1 ∧ ∀ u, u < n → mI h1 13 (k * 4 + u) = nI (wnS K F f L k u)
theorem laI_s {K : SK} {F : SF} {f : Nat} {L : Nat → Pl} {k n : Nat} {h h1 : mj_H} (z : laI K F f L k n h h1) (hn : n < 4) : laI K F f L k (n + 1) h (wI h1 13 (k * 4 + n) (nI (wnS K F f L k n))) := by
  refine ⟨z.1.sI ⟨rfl, by omega, by omega⟩, fun u hu => ?_⟩
  by_cases q : u = n
  · rw [q, mI_self]
  · rw [mI_oth (Or.inr (by omega))]; exact z.2 u (by omega)
theorem bo_lookAround_L {S : mj_S} {Q : Option Value → mj_H → Prop} {h : mj_H} (hs : HT h) {K : SK} (hK : KC K h) (hO : KO K) {F : SF} (hFO : FO K.1 F) {f : Nat} (hf : f < F.1) {L : Nat → Pl} (hL : okLy K.1 L) (hR : BrC F f h) (hB : BcC F f L h) {k : Nat} (hk : k < 64)
    (kx : ∀ h1 : mj_H, laI K F f L k 4 h h1 → Ex S bo_lookAround 47 [some (.ref 7), some (.int (nI (k))), some (.int (nI (4))), none] [] h1 Q) : ∀ d e : Nat, e + d = 4 → ∀ h1 : mj_H, laI K F f L k e h h1 → Ex S bo_lookAround 2 [some (.ref 7), some (.int (nI (k))), some (.int (nI (e))), none] [] h1 Q := by
  intro d
  induction d with
  | zero =>
    intro e hkk h1 hI
    obtain rfl : 4 = e := by omega
    have hn4 := HT_n hs
    have hk40 := hO.1
    have hs1 := hI.1.ht hs (W13k_st k)
    refine Ex_iload_n d_bo_lookAround_2 rfl ?_
    refine Ex_iconst d_bo_lookAround_3 ic_4 ?_
    refine Ex_icmp_geN (4) (4) 47 d_bo_lookAround_4 rfl rfl rfl (by omega) (by omega) (fun hc4 => ?_) (fun hc4 => ?_)
    · exact kx h1 hI
    · exfalso; omega
  | succ d ih =>
    intro e hkk h1 hI
    have hn4 := HT_n hs
    have hk40 := hO.1
    have hs1 := hI.1.ht hs (W13k_st k)
    have hK1 := KC_B hs (hI.1.mono W13k_B) hK
    have hsz := (hFO.2.2 f hf).1
    have hR1 : BrC F f h1 := ⟨by rw [hI.1.I (by omega) (by unfold W13k; omega)]; exact hR.1, by rw [hI.1.I (by omega) (by unfold W13k; omega)]; exact hR.2⟩
    have hB1 : BcC F f L h1 := BcC_fr hs hI.1 (by unfold W13k; omega) (by unfold W13k; omega) hB
    refine Ex_iload_n d_bo_lookAround_2 rfl ?_
    refine Ex_iconst d_bo_lookAround_3 ic_4 ?_
    refine Ex_icmp_geN (e) (4) 47 d_bo_lookAround_4 rfl rfl rfl (by omega) (by omega) (fun hc4 => ?_) (fun hc4 => ?_)
    · exfalso; omega
    · refine Ex_aload_n d_bo_lookAround_7 rfl ?_
      refine Ex_aload_n d_bo_lookAround_8 rfl ?_
      refine Ex_iload_n d_bo_lookAround_9 rfl ?_
      refine Ex_iload_n d_bo_lookAround_10 rfl ?_
      refine Ex_pV2 (v := .int (J (bsd F f k e))) d_bo_lookAround_11 pk_bo_lookAround_83 (t_7 hs1) (bo_beside_s hs1 hFO hf hR1 hk (by omega)) ?_
      refine Ex_pV1 (v := .int (cdD F f L k e)) d_bo_lookAround_14 pk_bo_lookAround_87 (t_7 hs1) (bo_codeAt_d hs1 hk40 (by omega) (by omega) hL hB1) ?_
      refine Ex_istore_n [some (.ref 7), some (.int (nI (k))), some (.int (nI (e))), some (.int (cdD F f L k e))] d_bo_lookAround_17 (Nat.le_of_ble_eq_true rfl) rfl ?_
      refine Ex_aload_n d_bo_lookAround_18 rfl ?_
      refine Ex_getR (v := .ref 13) d_bo_lookAround_19 pf_bo_21 rfl (t_7 hs1) (r_7_6 hs1) ?_
      refine Ex_iload_n d_bo_lookAround_22 rfl ?_
      refine Ex_iconst d_bo_lookAround_23 ic_4 ?_
      refine Ex_imulN (k) (4) d_bo_lookAround_24 rfl rfl ?_
      refine Ex_iload_n d_bo_lookAround_25 rfl ?_
      refine Ex_iaddN (k * 4) (e) d_bo_lookAround_26 rfl rfl ?_
      refine Ex_aload_n d_bo_lookAround_27 rfl ?_
      refine Ex_getR (v := .ref 8) d_bo_lookAround_28 pf_bo_41 rfl (t_7 hs1) (r_7_0 hs1) ?_
      refine Ex_iload_n d_bo_lookAround_31 rfl ?_
      refine Ex_iload_n d_bo_lookAround_32 rfl ?_
      refine Ex_iconst d_bo_lookAround_33 ic_2 ?_
      refine Ex_iaddN (e) (2) d_bo_lookAround_34 rfl rfl ?_
      refine Ex_iconst d_bo_lookAround_35 ic_3 ?_
      refine Ex_iand d_bo_lookAround_36 ?_
      rw [show (((nI (e + 2)) &&& (3 : Int32)) : Int32) = (nI ((e + 2) % 4)) from (nI_3 _)]
      refine Ex_pV2 (v := .int (nI (wnS K F f L k e))) d_bo_lookAround_37 pk_bo_lookAround_90 (t_8 hs1) (ch_colourOf_D hs1 hK1 hO hFO hf hL (Nat.mod_lt _ (by decide))) ?_
      refine Ex_iastoreN (a := (k * 4) + e) d_bo_lookAround_40 (t_13 hs1) rfl (by omega) (by decide) ?_
      refine Ex_iincN (e) 1 [some (.ref 7), some (.int (nI (k))), some (.int (nI (e + 1))), some (.int (cdD F f L k e))] d_bo_lookAround_41 rfl rfl rfl rfl ?_
      refine Ex_goto 2 d_bo_lookAround_44 rfl ?_
      refine Ex_forget (ls' := [some (.ref 7), some (.int (nI (k))), some (.int (nI (e + 1))), none]) (sub_s (sub_s (sub_s (sub_n sub_0)))) ?_
      exact ih (e + 1) (by omega) _ (laI_s hI (by omega))
theorem bo_lookAround_s {S : mj_S} {h : mj_H} (hs : HT h) {K : SK} (hK : KC K h) (hO : KO K) {F : SF} (hFO : FO K.1 F) {f : Nat} (hf : f < F.1) {L : Nat → Pl} (hL : okLy K.1 L) (hR : BrC F f h) (hB : BcC F f L h) {k : Nat} (hk : k < 64) : Cl S bo_lookAround [.ref 7, .int (nI (k))] h (fun r h' => r = none ∧ laI K F f L k 4 h h') := by
  show Ex S bo_lookAround 0 [some (.ref 7), some (.int (nI (k))), none, none] [] h _
  refine Ex_iconst d_bo_lookAround_0 ic_0 ?_
  refine Ex_istore_n [some (.ref 7), some (.int (nI (k))), some (.int (0)), none] d_bo_lookAround_1 (Nat.le_of_ble_eq_true rfl) rfl ?_
  refine bo_lookAround_L hs hK hO hFO hf hL hR hB hk (fun h1 hI => ?_) 4 0 rfl h ⟨Fr.rf, fun u hu => absurd hu (Nat.not_lt_zero _)⟩
  refine Ex_return d_bo_lookAround_47 rfl ?_
  exact ⟨rfl, hI⟩
def opC (F : SF) (f k : Nat) : Bool := decide (opF F f k)
def bgI (F : SF) (f n : Nat) (h h1 : mj_H) : Prop := Fr (fun a k => a = 11 ∨ a = 12 ∨ (a = 7 ∧ k = 1)) h h1 ∧ (∀ k, k < n → mI h1 11 k = cT (fT F f k) ∧ mI h1 12 k = bI (opC F f k)) ∧ mI h1 7 1 = nI (cnB (opC F f) 0 n)
theorem bgI_s {F : SF} {f n : Nat} {h h1 : mj_H} (z : bgI F f n h h1) {b : Bool} (hb : b = opC F f n) {x y : Int32} (hx : x = bI b) (hy : y = nI (cnB (opC F f) 0 n + (if b = true then 1 else 0))) : bgI F f (n + 1) h (wI (wI (wI h1 11 n (cT (fT F f n))) 12 n x) 7 1 y) := by
  refine ⟨((z.1.sI (Or.inl rfl)).sI (Or.inr (Or.inl rfl))).sI (Or.inr (Or.inr ⟨rfl, rfl⟩)), fun k hk => ?_, ?_⟩
  · by_cases q : k = n
    · rw [q, mI_oth (Or.inl (by decide)), mI_oth (Or.inl (by decide)), mI_self, mI_oth (Or.inl (by decide)), mI_self, hx, hb]
      exact ⟨rfl, rfl⟩
    · rw [mI_oth (Or.inl (by decide)), mI_oth (Or.inl (by decide)), mI_oth (Or.inr q), mI_oth (Or.inl (by decide)), mI_oth (Or.inr q), mI_oth (Or.inl (by decide))]
      exact z.2.1 k (by omega)
  · rw [mI_self, hy, hb]
    have y := cnB_a (opC F f) n 1 0
    rw [Nat.zero_add] at y
    rw [y]
    rfl
theorem bgI_st : ∀ q ∈ statR, ¬ (q.1 = 11 ∨ q.1 = 12 ∨ (q.1 = 7 ∧ q.2.1 = 1)) := by decide
theorem cT_m1 {n : Nat} (hn : n ≤ 40) {t : To} (h : okTo n t) : cT t = -1 ↔ t = none := by
  match t, h with
  | none, _ => exact ⟨fun _ => rfl, fun _ => rfl⟩
  | some none, _ => exact ⟨fun z => absurd z (by decide), fun z => by cases z⟩
  | some (some q), h => exact ⟨fun z => absurd ((cQ_m1 hn (p := some q) h).mp z) (by simp), fun z => by cases z⟩
theorem bo_begin_L1 {S : mj_S} {Q : Option Value → mj_H → Prop} {h : mj_H} (hs : HT h) {K : SK} (hK : KC K h) (hO : KO K) {F : SF} {Y : OW} (hFO : FO K.1 F) {f a b c d : Nat} (hf : f < F.1) (hx : FlC1 F Y h f a b c d) (hR : BrC F f h)
    (kx : ∀ h1 : mj_H, bgI F f 64 h h1 → Ex S bo_begin 106 [some (.ref 7), some (.ref (a)), some (.int (nI (64)))] [] h1 Q) : ∀ d k : Nat, k + d = 64 → ∀ h1 : mj_H, bgI F f k h h1 → Ex S bo_begin 31 [some (.ref 7), some (.ref (a)), some (.int (nI (k)))] [] h1 Q := by
  intro d
  induction d with
  | zero =>
    intro k hkk h1 hI
    obtain rfl : 64 = k := by omega
    have hn4 := HT_n hs
    have hk40 := hO.1
    have hs1 := hI.1.ht hs bgI_st
    have frB : Fr WBo h h1 := hI.1.mono (by intro a k; unfold WBo; omega)
    have hx1 := FlC1_B hs frB hx
    have hR1 : BrC F f h1 := ⟨by rw [hI.1.I (by omega) (by omega)]; exact hR.1, by rw [hI.1.I (by omega) (by omega)]; exact hR.2⟩
    refine Ex_iload_n d_bo_begin_31 rfl ?_
    refine Ex_bipush d_bo_begin_32 bp_64 ?_
    refine Ex_icmp_geN (64) (64) 106 d_bo_begin_34 rfl rfl rfl (by omega) (by omega) (fun hc34 => ?_) (fun hc34 => ?_)
    · exact kx h1 hI
    · exfalso; omega
  | succ d ih =>
    intro k hkk h1 hI
    have hn4 := HT_n hs
    have hk40 := hO.1
    have hs1 := hI.1.ht hs bgI_st
    have frB : Fr WBo h h1 := hI.1.mono (by intro a k; unfold WBo; omega)
    have hx1 := FlC1_B hs frB hx
    have hR1 : BrC F f h1 := ⟨by rw [hI.1.I (by omega) (by omega)]; exact hR.1, by rw [hI.1.I (by omega) (by omega)]; exact hR.2⟩
    have hto := ((hFO.2.2 f hf).2.1 k (by omega)).1
    have hcn : cnB (opC F f) 0 k ≤ k := cnB_le _ _ _
    refine Ex_iload_n d_bo_begin_31 rfl ?_
    refine Ex_bipush d_bo_begin_32 bp_64 ?_
    refine Ex_icmp_geN (k) (64) 106 d_bo_begin_34 rfl rfl rfl (by omega) (by omega) (fun hc34 => ?_) (fun hc34 => ?_)
    · exfalso; omega
    · refine Ex_aload_n d_bo_begin_37 rfl ?_
      refine Ex_getR (v := .ref 11) d_bo_begin_38 pf_bo_11 rfl (t_7 hs1) (r_7_4 hs1) ?_
      refine Ex_iload_n d_bo_begin_41 rfl ?_
      refine Ex_aload_n d_bo_begin_42 rfl ?_
      refine Ex_iload_n d_bo_begin_43 rfl ?_
      refine Ex_pV1 (v := .int (cT (fT F f k))) d_bo_begin_44 pk_bo_begin_61 hx1.2.1.2.1 (fl_placeAt_s hFO hf hx1 (by omega)) ?_
      refine Ex_iastoreN (a := k) d_bo_begin_47 (t_11 hs1) rfl (by omega) (by decide) ?_
      refine Ex_aload_n d_bo_begin_48 rfl ?_
      refine Ex_getR (v := .ref 12) d_bo_begin_49 pf_bo_17 rfl (t_7 hs1) (r_7_5 hs1) ?_
      refine Ex_iload_n d_bo_begin_52 rfl ?_
      have hR2 : BrC F f (wI h1 11 k (cT (fT F f k))) := ⟨by rw [mI_oth (Or.inl (by decide))]; exact hR1.1, by rw [mI_oth (Or.inl (by decide))]; exact hR1.2⟩
      refine Ex_aload_n d_bo_begin_53 rfl ?_
      refine Ex_iload_n d_bo_begin_54 rfl ?_
      refine Ex_pV1 (v := .int (bI (decide (inF F f k)))) d_bo_begin_55 pk_bo_begin_65 (t_7 hs1) (bo_has_s (show HT (wI h1 11 k (cT (fT F f k))) from hs1) hFO hf hR2 (by omega)) ?_
      refine Ex_if_eqB (decide (inF F f k)) 75 d_bo_begin_58 rfl rfl (fun hc58 => ?_) (fun hc58 => ?_)
      · rw [decide_eq_false_iff_not] at hc58
        refine Ex_iconst d_bo_begin_75 ic_0 ?_
        refine Ex_bastoreN (a := k) d_bo_begin_76 (t_12 hs1) rfl (by omega) (by decide) (by decide) ?_
        refine Ex_aload_n d_bo_begin_77 rfl ?_
        refine Ex_dup rfl d_bo_begin_78 ?_
        refine Ex_getIE (y := (nI (cnB (opC F f) 0 k))) d_bo_begin_79 pf_bo_58 rfl (t_7 hs1) (by rw [mI_oth (Or.inl (by decide)), mI_oth (Or.inl (by decide))]; exact hI.2.2) ?_
        refine Ex_aload_n d_bo_begin_82 rfl ?_
        refine Ex_getR (v := .ref 12) d_bo_begin_83 pf_bo_17 rfl (t_7 hs1) (r_7_5 hs1) ?_
        refine Ex_iload_n d_bo_begin_86 rfl ?_
        refine Ex_baloadN (a := k) (y := (0 : Int32)) d_bo_begin_87 (t_12 hs1) rfl (by omega) (by decide) (mI_self _ _ _ _) ?_
        refine Ex_if_eqN (0) 95 d_bo_begin_88 rfl rfl (by omega) (fun hc88 => ?_) (fun hc88 => ?_)
        · refine Ex_iconst d_bo_begin_95 ic_0 ?_
          refine Ex_iaddN (cnB (opC F f) 0 k) (0) d_bo_begin_96 rfl rfl ?_
          refine Ex_putI d_bo_begin_97 pf_bo_58 (Or.inl rfl) (t_7 hs1) (Or.inl rfl) ?_
          refine Ex_iincN (k) 1 [some (.ref 7), some (.ref (a)), some (.int (nI (k + 1)))] d_bo_begin_100 rfl rfl rfl rfl ?_
          refine Ex_goto 31 d_bo_begin_103 rfl ?_
          refine ih (k + 1) (by omega) _ (bgI_s (b := false) hI ?_ rfl rfl)
          symm
          unfold opC
          rw [decide_eq_false_iff_not]
          first | exact fun z => hc58 z.1 | exact fun z => hc68 ((cT_m1 hk40 hto).mpr z.2)
        · exact absurd hc88 (by decide)
      · rw [decide_eq_true_eq] at hc58
        refine Ex_aload_n d_bo_begin_61 rfl ?_
        refine Ex_getR (v := .ref 11) d_bo_begin_62 pf_bo_11 rfl (t_7 hs1) (r_7_4 hs1) ?_
        refine Ex_iload_n d_bo_begin_65 rfl ?_
        refine Ex_ialoadN (a := k) (y := (cT (fT F f k))) d_bo_begin_66 (t_11 hs1) rfl (by omega) (by decide) (mI_self _ _ _ _) ?_
        refine Ex_iconst d_bo_begin_67 ic_m1 ?_
        refine Ex_icmp_ne 75 d_bo_begin_68 rfl (fun hc68 => ?_) (fun hc68 => ?_)
        · refine Ex_iconst d_bo_begin_75 ic_0 ?_
          refine Ex_bastoreN (a := k) d_bo_begin_76 (t_12 hs1) rfl (by omega) (by decide) (by decide) ?_
          refine Ex_aload_n d_bo_begin_77 rfl ?_
          refine Ex_dup rfl d_bo_begin_78 ?_
          refine Ex_getIE (y := (nI (cnB (opC F f) 0 k))) d_bo_begin_79 pf_bo_58 rfl (t_7 hs1) (by rw [mI_oth (Or.inl (by decide)), mI_oth (Or.inl (by decide))]; exact hI.2.2) ?_
          refine Ex_aload_n d_bo_begin_82 rfl ?_
          refine Ex_getR (v := .ref 12) d_bo_begin_83 pf_bo_17 rfl (t_7 hs1) (r_7_5 hs1) ?_
          refine Ex_iload_n d_bo_begin_86 rfl ?_
          refine Ex_baloadN (a := k) (y := (0 : Int32)) d_bo_begin_87 (t_12 hs1) rfl (by omega) (by decide) (mI_self _ _ _ _) ?_
          refine Ex_if_eqN (0) 95 d_bo_begin_88 rfl rfl (by omega) (fun hc88 => ?_) (fun hc88 => ?_)
          · refine Ex_iconst d_bo_begin_95 ic_0 ?_
            refine Ex_iaddN (cnB (opC F f) 0 k) (0) d_bo_begin_96 rfl rfl ?_
            refine Ex_putI d_bo_begin_97 pf_bo_58 (Or.inl rfl) (t_7 hs1) (Or.inl rfl) ?_
            refine Ex_iincN (k) 1 [some (.ref 7), some (.ref (a)), some (.int (nI (k + 1)))] d_bo_begin_100 rfl rfl rfl rfl ?_
            refine Ex_goto 31 d_bo_begin_103 rfl ?_
            refine ih (k + 1) (by omega) _ (bgI_s (b := false) hI ?_ rfl rfl)
            symm
            unfold opC
            rw [decide_eq_false_iff_not]
            first | exact fun z => hc58 z.1 | exact fun z => hc68 ((cT_m1 hk40 hto).mpr z.2)
          · exact absurd hc88 (by decide)
        · refine Ex_iconst d_bo_begin_71 ic_1 ?_
          refine Ex_goto 76 d_bo_begin_72 rfl ?_
          refine Ex_bastoreN (a := k) d_bo_begin_76 (t_12 hs1) rfl (by omega) (by decide) (by decide) ?_
          refine Ex_aload_n d_bo_begin_77 rfl ?_
          refine Ex_dup rfl d_bo_begin_78 ?_
          refine Ex_getIE (y := (nI (cnB (opC F f) 0 k))) d_bo_begin_79 pf_bo_58 rfl (t_7 hs1) (by rw [mI_oth (Or.inl (by decide)), mI_oth (Or.inl (by decide))]; exact hI.2.2) ?_
          refine Ex_aload_n d_bo_begin_82 rfl ?_
          refine Ex_getR (v := .ref 12) d_bo_begin_83 pf_bo_17 rfl (t_7 hs1) (r_7_5 hs1) ?_
          refine Ex_iload_n d_bo_begin_86 rfl ?_
          refine Ex_baloadN (a := k) (y := (1 : Int32)) d_bo_begin_87 (t_12 hs1) rfl (by omega) (by decide) (mI_self _ _ _ _) ?_
          refine Ex_if_eqN (1) 95 d_bo_begin_88 rfl rfl (by omega) (fun hc88 => ?_) (fun hc88 => ?_)
          · exact absurd hc88 (by decide)
          · refine Ex_iconst d_bo_begin_91 ic_1 ?_
            refine Ex_goto 96 d_bo_begin_92 rfl ?_
            refine Ex_iaddN (cnB (opC F f) 0 k) (1) d_bo_begin_96 rfl rfl ?_
            refine Ex_putI d_bo_begin_97 pf_bo_58 (Or.inl rfl) (t_7 hs1) (Or.inl rfl) ?_
            refine Ex_iincN (k) 1 [some (.ref 7), some (.ref (a)), some (.int (nI (k + 1)))] d_bo_begin_100 rfl rfl rfl rfl ?_
            refine Ex_goto 31 d_bo_begin_103 rfl ?_
            refine ih (k + 1) (by omega) _ (bgI_s (b := true) hI ?_ rfl rfl)
            symm
            unfold opC
            rw [decide_eq_true_eq]
            exact ⟨hc58, (cT_m1 hk40 hto).mp hc68⟩
def W15 (a k : Nat) : Prop := a = 15
theorem W15_st : ∀ q ∈ statR, ¬ W15 q.1 q.2.1 := by
  have h2 : ∀ q ∈ statR, ¬ (q.1 = 15) := by decide
  exact h2
theorem W15_B : ∀ a k, W15 a k → WBo a k := by intro a k; unfold W15 WBo; omega
theorem W16_B : ∀ a k, W16 a k → WBo a k := by intro a k; unfold W16 WBo; omega
theorem bo_begin_L2 {S : mj_S} {Q : Option Value → mj_H → Prop} {h : mj_H} (hs : HT h) {K : SK} (hK : KC K h) (hO : KO K) {F : SF} {Y : OW} (hFO : FO K.1 F) {f a b c d : Nat} (hf : f < F.1) (hx : FlC1 F Y h f a b c d)
    (kx : ∀ h1 : mj_H, (Fr W15 h h1 ∧ ∀ j, j < 40 → mI h1 15 j = nI (fS F f j)) → Ex S bo_begin 131 [some (.ref 7), some (.ref (a)), some (.int (nI (40)))] [] h1 Q) : ∀ d k : Nat, k + d = 40 → ∀ h1 : mj_H, (Fr W15 h h1 ∧ ∀ j, j < k → mI h1 15 j = nI (fS F f j)) → Ex S bo_begin 108 [some (.ref 7), some (.ref (a)), some (.int (nI (k)))] [] h1 Q := by
  intro d
  induction d with
  | zero =>
    intro k hkk h1 hI
    obtain rfl : 40 = k := by omega
    have hn4 := HT_n hs
    have hs1 := hI.1.ht hs W15_st
    have hx1 := FlC1_B hs (hI.1.mono W15_B) hx
    refine Ex_iload_n d_bo_begin_108 rfl ?_
    refine Ex_bipush d_bo_begin_109 bp_40 ?_
    refine Ex_icmp_geN (40) (40) 131 d_bo_begin_111 rfl rfl rfl (by omega) (by omega) (fun hc111 => ?_) (fun hc111 => ?_)
    · exact kx h1 hI
    · exfalso; omega
  | succ d ih =>
    intro k hkk h1 hI
    have hn4 := HT_n hs
    have hs1 := hI.1.ht hs W15_st
    have hx1 := FlC1_B hs (hI.1.mono W15_B) hx
    refine Ex_iload_n d_bo_begin_108 rfl ?_
    refine Ex_bipush d_bo_begin_109 bp_40 ?_
    refine Ex_icmp_geN (k) (40) 131 d_bo_begin_111 rfl rfl rfl (by omega) (by omega) (fun hc111 => ?_) (fun hc111 => ?_)
    · exfalso; omega
    · refine Ex_aload_n d_bo_begin_114 rfl ?_
      refine Ex_getR (v := .ref 15) d_bo_begin_115 pf_bo_29 rfl (t_7 hs1) (r_7_8 hs1) ?_
      refine Ex_iload_n d_bo_begin_118 rfl ?_
      refine Ex_aload_n d_bo_begin_119 rfl ?_
      refine Ex_iload_n d_bo_begin_120 rfl ?_
      refine Ex_pV1 (v := .int (nI (fS F f k))) d_bo_begin_121 pk_bo_begin_69 hx1.2.1.2.1 (fl_stockOf_s hFO hf hx1 (by omega)) ?_
      refine Ex_iastoreN (a := k) d_bo_begin_124 (t_15 hs1) rfl (by omega) (by decide) ?_
      refine Ex_iincN (k) 1 [some (.ref 7), some (.ref (a)), some (.int (nI (k + 1)))] d_bo_begin_125 rfl rfl rfl rfl ?_
      refine Ex_goto 108 d_bo_begin_128 rfl ?_
      refine ih (k + 1) (by omega) _ ⟨hI.1.sI rfl, fun j hj => ?_⟩
      by_cases q : j = k
      · rw [q, mI_self]
      · rw [mI_oth (Or.inr q)]; exact hI.2 j (by omega)
theorem bo_begin_L3 {S : mj_S} {Q : Option Value → mj_H → Prop} {h : mj_H} (hs : HT h) {K : SK} {F : SF} {f s : Nat} {cd : Nat → Nat} (hE : EnO (okN K F f) (8 * K.1) s cd) (hBi : BiC K s cd h) {a : Nat}
    (kx : ∀ h1 : mj_H, (Fr W16 h h1 ∧ ∀ j, j < 5 → mL h1 16 j = wdL (bL s cd (fS F f)) j) → Ex S bo_begin 158 [some (.ref 7), some (.ref (a)), some (.int (nI (5)))] [] h1 Q) : ∀ d k : Nat, k + d = 5 → ∀ h1 : mj_H, (Fr W16 h h1 ∧ ∀ j, j < k → mL h1 16 j = wdL (bL s cd (fS F f)) j) → Ex S bo_begin 133 [some (.ref 7), some (.ref (a)), some (.int (nI (k)))] [] h1 Q := by
  intro d
  induction d with
  | zero =>
    intro k hkk h1 hI
    obtain rfl : 5 = k := by omega
    have hn4 := HT_n hs
    have hs1 := hI.1.ht hs W16_st
    refine Ex_iload_n d_bo_begin_133 rfl ?_
    refine Ex_iconst d_bo_begin_134 ic_5 ?_
    refine Ex_icmp_geN (5) (5) 158 d_bo_begin_135 rfl rfl rfl (by omega) (by omega) (fun hc135 => ?_) (fun hc135 => ?_)
    · exact kx h1 hI
    · exfalso; omega
  | succ d ih =>
    intro k hkk h1 hI
    have hn4 := HT_n hs
    have hs1 := hI.1.ht hs W16_st
    have hw16 : ∀ w, w < 5 → mL h1 10 (80 + w) = wdL (bL s cd (fS F f)) w := fun w hw => by
      rw [hI.1.L (by omega) (by unfold W16; omega), show mL h 10 (80 + w) = _ from hBi 0 16 w (by decide) (by decide) hw]
      refine wdL_c (fun i _ => ?_)
      unfold bM bL
      exact decide_eq_decide.mpr ⟨fun z => ⟨z.1, (hE.1 _ z.1).2.1⟩, fun z => ⟨z.1, Or.inl rfl⟩⟩
    refine Ex_iload_n d_bo_begin_133 rfl ?_
    refine Ex_iconst d_bo_begin_134 ic_5 ?_
    refine Ex_icmp_geN (k) (5) 158 d_bo_begin_135 rfl rfl rfl (by omega) (by omega) (fun hc135 => ?_) (fun hc135 => ?_)
    · exfalso; omega
    · refine Ex_aload_n d_bo_begin_138 rfl ?_
      refine Ex_getR (v := .ref 16) d_bo_begin_139 pf_bo_34 rfl (t_7 hs1) (r_7_9 hs1) ?_
      refine Ex_iload_n d_bo_begin_142 rfl ?_
      refine Ex_aload_n d_bo_begin_143 rfl ?_
      refine Ex_getR (v := .ref 8) d_bo_begin_144 pf_bo_41 rfl (t_7 hs1) (r_7_0 hs1) ?_
      refine Ex_iload_n d_bo_begin_147 rfl ?_
      refine Ex_pV1 (v := .long (wdL (bL s cd (fS F f)) k)) d_bo_begin_148 pk_bo_begin_72 (t_8 hs1) (show Cl S ch_all [.ref 8, .int (nI k)] h1 (Pu (.long (wdL (bL s cd (fS F f)) k)) h1) by have z := ch_all_s (S := S) hs1 (w := k) (by omega); rw [hw16 k (by omega)] at z; exact z) ?_
      refine Ex_lastoreN (a := k) d_bo_begin_151 (t_16 hs1) rfl (by omega) (by decide) ?_
      refine Ex_iincN (k) 1 [some (.ref 7), some (.ref (a)), some (.int (nI (k + 1)))] d_bo_begin_152 rfl rfl rfl rfl ?_
      refine Ex_goto 133 d_bo_begin_155 rfl ?_
      refine ih (k + 1) (by omega) _ ⟨hI.1.sL rfl, fun j hj => ?_⟩
      by_cases q : j = k
      · rw [q, mL_self]
      · rw [mL_oth (Or.inr q)]; exact hI.2 j (by omega)
def W13 (a k : Nat) : Prop := a = 13
theorem W13_st : ∀ q ∈ statR, ¬ W13 q.1 q.2.1 := by
  have h2 : ∀ q ∈ statR, ¬ (q.1 = 13) := by decide
  exact h2
theorem W13_B : ∀ a k, W13 a k → WBo a k := by intro a k; unfold W13 WBo; omega
theorem bo_begin_L4 {S : mj_S} {Q : Option Value → mj_H → Prop} {h : mj_H} (hs : HT h) {K : SK} (hK : KC K h) (hO : KO K) {F : SF} (hFO : FO K.1 F) {f : Nat} (hf : f < F.1) {L : Nat → Pl} (hL : okLy K.1 L) (hR : BrC F f h) (hB : BcC F f L h) {a : Nat}
    (kx : ∀ h1 : mj_H, (Fr W13 h h1 ∧ ∀ j, j < 64 → ∀ e, e < 4 → mI h1 13 (j * 4 + e) = nI (wnS K F f L j e)) → Ex S bo_begin 177 [some (.ref 7), some (.ref (a)), some (.int (nI (64)))] [] h1 Q) : ∀ d k : Nat, k + d = 64 → ∀ h1 : mj_H, (Fr W13 h h1 ∧ ∀ j, j < k → ∀ e, e < 4 → mI h1 13 (j * 4 + e) = nI (wnS K F f L j e)) → Ex S bo_begin 160 [some (.ref 7), some (.ref (a)), some (.int (nI (k)))] [] h1 Q := by
  intro d
  induction d with
  | zero =>
    intro k hkk h1 hI
    obtain rfl : 64 = k := by omega
    have hn4 := HT_n hs
    have hs1 := hI.1.ht hs W13_st
    have hK1 := KC_B hs (hI.1.mono W13_B) hK
    have hR1 : BrC F f h1 := ⟨by rw [hI.1.I (by omega) (by unfold W13; omega)]; exact hR.1, by rw [hI.1.I (by omega) (by unfold W13; omega)]; exact hR.2⟩
    have hB1 : BcC F f L h1 := BcC_fr hs hI.1 (by unfold W13; omega) (by unfold W13; omega) hB
    have hn5 := HT_n hs1
    refine Ex_iload_n d_bo_begin_160 rfl ?_
    refine Ex_bipush d_bo_begin_161 bp_64 ?_
    refine Ex_icmp_geN (64) (64) 177 d_bo_begin_163 rfl rfl rfl (by omega) (by omega) (fun hc163 => ?_) (fun hc163 => ?_)
    · exact kx h1 hI
    · exfalso; omega
  | succ d ih =>
    intro k hkk h1 hI
    have hn4 := HT_n hs
    have hs1 := hI.1.ht hs W13_st
    have hK1 := KC_B hs (hI.1.mono W13_B) hK
    have hR1 : BrC F f h1 := ⟨by rw [hI.1.I (by omega) (by unfold W13; omega)]; exact hR.1, by rw [hI.1.I (by omega) (by unfold W13; omega)]; exact hR.2⟩
    have hB1 : BcC F f L h1 := BcC_fr hs hI.1 (by unfold W13; omega) (by unfold W13; omega) hB
    have hn5 := HT_n hs1
    refine Ex_iload_n d_bo_begin_160 rfl ?_
    refine Ex_bipush d_bo_begin_161 bp_64 ?_
    refine Ex_icmp_geN (k) (64) 177 d_bo_begin_163 rfl rfl rfl (by omega) (by omega) (fun hc163 => ?_) (fun hc163 => ?_)
    · exfalso; omega
    · refine Ex_aload_n d_bo_begin_166 rfl ?_
      refine Ex_iload_n d_bo_begin_167 rfl ?_
      refine Ex_cV1 d_bo_begin_168 pk_bo_begin_76 (t_7 hs1) (bo_lookAround_s hs1 hK1 hO hFO hf hL hR1 hB1 (k := k) (by omega)) ?_
      rintro rv h2 ⟨rfl, w1, w2⟩
      show Ex S bo_begin 171 [some (.ref 7), some (.ref (a)), some (.int (nI (k)))] [] h2 _
      refine Ex_iincN (k) 1 [some (.ref 7), some (.ref (a)), some (.int (nI (k + 1)))] d_bo_begin_171 rfl rfl rfl rfl ?_
      refine Ex_goto 160 d_bo_begin_174 rfl ?_
      refine ih (k + 1) (by omega) _ ⟨hI.1.tr (w1.mono (fun a j z => z.1)), fun j hj e he => ?_⟩
      by_cases q : j = k
      · rw [q]; exact w2 e he
      · rw [w1.I (by omega) (by unfold W13k; omega)]; exact hI.2 j (by omega) e he
