/-! RULES: rule, becomes, on both sides. -/
abbrev SR : Type := Nat × (Nat → Nat) × (Nat → Nat) × (Nat → Nat → Tl)
def rR (R : SR) : Nat → Nat := R.2.1
def rC (R : SR) : Nat → Nat := R.2.2.1
def rB (R : SR) : Nat → Nat → Tl := R.2.2.2
def RM (R : SR) (h : mj_H) : Prop := mI h 38 29 = nI R.1 ∧ ∀ r, r < R.1 → mI h 56 r = nI (rR R r) ∧ mI h 57 r = nI (rC R r) ∧ ∀ k, k < 640 → mI h 58 (640 * r + k) = eM (rB R r k)
def RO (n : Nat) (R : SR) : Prop := R.1 ≤ 8 ∧ ∀ r, r < R.1 → (1 ≤ rR R r ∧ rR R r ≤ 4 ∧ 1 ≤ rC R r ∧ rC R r ≤ 4) ∧ ∀ k, k < 640 → okT n (rB R r k)
def RuC1 (R : SR) (Y : OW) (h : mj_H) (r a b c d : Nat) : Prop := ((74 ≤ a ∧ Y a = (3, r)) ∧ (74 ≤ b ∧ Y b = (4, r)) ∧ (74 ≤ c ∧ Y c = (5, r)) ∧ (74 ≤ d ∧ Y d = (6, r))) ∧ (mR h 36 r = some a ∧ mT h a = some (18, 5) ∧ mR h a 2 = some b ∧ mR h a 3 = some c ∧ mR h a 4 = some d ∧ mT h b = some (0, 640) ∧ mT h c = some (1, 40) ∧ mT h d = some (1, 40)) ∧ mI h a 0 = nI (rR R r) ∧ mI h a 1 = nI (rC R r) ∧ ∀ k, k < 640 → mI h b k = eC (rB R r k)
def RuC (R : SR) (Y : OW) (h : mj_H) : Prop := mI h 0 10 = nI R.1 ∧ ∀ r, r < R.1 → ∃ a b c d, RuC1 R Y h r a b c d
def WRuM (a k : Nat) : Prop := a = 56 ∨ a = 57 ∨ a = 58 ∨ (a = 38 ∧ k = 29)
def WRuc (Y : OW) (a k : Nat) : Prop := (a = 0 ∧ k = 10) ∨ a = 36 ∨ (74 ≤ a ∧ ((Y a).1 = 3 ∨ (Y a).1 = 4))
def WRuC (Y : OW) (a k : Nat) : Prop := (a = 0 ∧ k = 10) ∨ a = 36 ∨ (74 ≤ a ∧ 3 ≤ (Y a).1 ∧ (Y a).1 ≤ 6) ∨ Wal a k
theorem WRuM_st : ∀ q ∈ statR, ¬ WRuM q.1 q.2.1 := by unfold WRuM; decide
theorem WRuC_st (Y : OW) : ∀ q ∈ statR, ¬ WRuC Y q.1 q.2.1 := by
  intro q hq
  have h1 := st_lt q hq
  have h2 : ∀ q ∈ statR, ¬ ((q.1 = 0 ∧ q.2.1 = 10) ∨ q.1 = 36 ∨ (q.1 = 0 ∧ q.2.1 = 1000000000)) := by decide
  have h3 := h2 q hq
  unfold WRuC Wal
  omega
theorem RM_fr {W : Nat → Nat → Prop} {R : SR} {h h' : mj_H} (hs : HT h) (f : Fr W h h') (hw : ∀ a k, WRuM a k → ¬ W a k) (hR : RM R h) : RM R h' := by
  have hn := HT_n hs
  refine ⟨?_, fun r hr => ⟨?_, ?_, fun k hk => ?_⟩⟩
  · rw [f.I (by omega) (hw _ _ (by unfold WRuM; omega))]; exact hR.1
  · rw [f.I (by omega) (hw _ _ (by unfold WRuM; omega))]; exact (hR.2 r hr).1
  · rw [f.I (by omega) (hw _ _ (by unfold WRuM; omega))]; exact (hR.2 r hr).2.1
  · rw [f.I (by omega) (hw _ _ (by unfold WRuM; omega))]; exact (hR.2 r hr).2.2 k hk
theorem RuC1_fr {W : Nat → Nat → Prop} {R : SR} {Y Y' : OW} {h h' : mj_H} (hs : HT h) (f : Fr W h h') {r a b c d : Nat} (h3 : ¬ W 36 r) (ha : ∀ k, ¬ W a k) (hb : ∀ k, ¬ W b k) (hy : OwE h Y Y') (z : RuC1 R Y h r a b c d) : RuC1 R Y' h' r a b c d := by
  obtain ⟨⟨⟨a1, a2⟩, ⟨a3, a4⟩, ⟨a5, a6⟩, a7, a8⟩, ⟨b1, b2, b3, b4, b5, b6, b7, b8⟩, c1, c2, c3⟩ := z
  have hn := HT_n hs
  have la := mT_lt b2
  have lb := mT_lt b6
  have lc := mT_lt b7
  have ld := mT_lt b8
  refine ⟨⟨⟨a1, by rw [hy _ la]; exact a2⟩, ⟨a3, by rw [hy _ lb]; exact a4⟩, ⟨a5, by rw [hy _ lc]; exact a6⟩, a7, by rw [hy _ ld]; exact a8⟩, ⟨?_, f.1.1 _ _ b2, ?_, ?_, ?_, f.1.1 _ _ b6, f.1.1 _ _ b7, f.1.1 _ _ b8⟩, ?_, ?_, fun k hk => ?_⟩
  · rw [f.R (by omega) h3]; exact b1
  · rw [f.R la (ha _)]; exact b3
  · rw [f.R la (ha _)]; exact b4
  · rw [f.R la (ha _)]; exact b5
  · rw [f.I la (ha _)]; exact c1
  · rw [f.I la (ha _)]; exact c2
  · rw [f.I lb (hb _)]; exact c3 k hk
theorem RuC_fr {W : Nat → Nat → Prop} {R : SR} {Y Y' : OW} {h h' : mj_H} (hs : HT h) (f : Fr W h h') (hw : ∀ a k, WRuc Y a k → ¬ W a k) (hy : OwE h Y Y') (hR : RuC R Y h) : RuC R Y' h' := by
  have hn := HT_n hs
  refine ⟨by rw [f.I (by omega) (hw _ _ (Or.inl ⟨rfl, rfl⟩))]; exact hR.1, fun r hr => ?_⟩
  obtain ⟨a, b, c, d, z⟩ := hR.2 r hr
  exact ⟨a, b, c, d, RuC1_fr hs f (hw _ _ (Or.inr (Or.inl rfl))) (fun k => hw _ _ (Or.inr (Or.inr ⟨z.1.1.1, Or.inl (by rw [z.1.1.2])⟩))) (fun k => hw _ _ (Or.inr (Or.inr ⟨z.1.2.1.1, Or.inr (by rw [z.1.2.1.2])⟩))) hy z⟩
abbrev okRu (R : SR) (r c : Int) : Prop := R.1 < 8 ∧ 1 ≤ r ∧ r ≤ 4 ∧ 1 ≤ c ∧ c ≤ 4
def addR (R : SR) (r c : Nat) : SR := (R.1 + 1, va_up (rR R) R.1 r, va_up (rC R) R.1 c, va_up (rB R) R.1 (fun _ => none))
theorem addR_ok {n : Nat} {R : SR} (hR : RO n R) {r c : Nat} (h : R.1 < 8 ∧ 1 ≤ r ∧ r ≤ 4 ∧ 1 ≤ c ∧ c ≤ 4) : RO n (addR R r c) := by
  refine ⟨by show R.1 + 1 ≤ 8; omega, fun q hq => ?_⟩
  have hq : q < R.1 + 1 := hq
  show (1 ≤ va_up (rR R) R.1 r q ∧ va_up (rR R) R.1 r q ≤ 4 ∧ 1 ≤ va_up (rC R) R.1 c q ∧ va_up (rC R) R.1 c q ≤ 4) ∧ ∀ k, k < 640 → okT n (va_up (rB R) R.1 (fun _ => none) q k)
  unfold va_up
  by_cases hq1 : q = R.1
  · simp only [if_pos hq1]
    exact ⟨by omega, fun _ _ => trivial⟩
  · simp only [if_neg hq1]
    exact hR.2 q (by omega)
abbrev okBe (K : SK) (R : SR) (r k i j o m : Int) : Prop := 0 ≤ r ∧ r < R.1 ∧ 0 ≤ k ∧ k < K.1 ∧ 0 ≤ i ∧ i < rR R r.toNat ∧ 0 ≤ j ∧ j < rC R r.toNat ∧ (o = -1 ∨ (0 ≤ o ∧ o < K.1 ∧ 0 ≤ m ∧ m < 8))
def setR (R : SR) (r t : Nat) (c : Tl) : SR := (R.1, R.2.1, R.2.2.1, va_up (rB R) r (va_up (rB R r) t c))
def beR (K : SK) (R : SR) (r k i j o m : Int) : SR := setR R r.toNat (16 * k.toNat + 4 * i.toNat + j.toNat) (putC K o m)
theorem setR_ok {n : Nat} {R : SR} (hR : RO n R) {r t : Nat} {c : Tl} (hc : okT n c) : RO n (setR R r t c) := by
  refine ⟨hR.1, fun q hq => ⟨(hR.2 q hq).1, fun k hk => ?_⟩⟩
  show okT n (va_up (rB R) r (va_up (rB R r) t c) q k)
  unfold va_up
  by_cases hq1 : q = r
  · rw [if_pos hq1]
    show okT n (if k = t then c else rB R r k)
    split
    · exact hc
    · rw [← hq1]; exact (hR.2 q hq).2 k hk
  · rw [if_neg hq1]
    exact (hR.2 q hq).2 k hk
theorem putC_ok {K : SK} (hO : KO K) {o m : Int} (h : o = -1 ∨ (0 ≤ o ∧ o < K.1 ∧ 0 ≤ m ∧ m < 8)) : okT K.1 (putC K o m) := by
  unfold putC
  split
  · trivial
  · exact ⟨by omega, kLie_lt hO (by omega), by omega⟩
theorem rm_isRule_s {S : mj_S} {h : mj_H} (hs : HT h) {R : SR} (hR : RM R h) {n : Nat} (hRO : RO n R) {z : Int} (hz : -2147483648 ≤ z ∧ z < 2147483648) : Cl S rm_isRule [.ref 38, .int (J (z))] h (Pu (.int (bI (decide (0 ≤ z ∧ z < R.1)))) h) := by
  show Ex S rm_isRule 0 [some (.ref 38), some (.int (J (z)))] [] h _
  have h8 := hRO.1
  refine Ex_iload_n d_rm_isRule_0 rfl ?_
  refine Ex_if_ltZ (z) 16 d_rm_isRule_1 rfl rfl (by omega) (fun hc1 => ?_) (fun hc1 => ?_)
  · refine Ex_iconst d_rm_isRule_16 ic_0 ?_
    refine Ex_zreturn d_rm_isRule_17 rfl (by decide) ?_
    exact Pu_f (by omega)
  · refine Ex_iload_n d_rm_isRule_4 rfl ?_
    refine Ex_aload_n d_rm_isRule_5 rfl ?_
    refine Ex_getIE d_rm_isRule_6 pf_rm_238 rfl (t_38 hs) hR.1 ?_
    refine Ex_icmp_geZ (z) (((R.1 : Nat) : Int)) 16 d_rm_isRule_9 rfl rfl (nIJ _) (by omega) (by omega) (fun hc9 => ?_) (fun hc9 => ?_)
    · refine Ex_iconst d_rm_isRule_16 ic_0 ?_
      refine Ex_zreturn d_rm_isRule_17 rfl (by decide) ?_
      exact Pu_f (by omega)
    · refine Ex_iconst d_rm_isRule_12 ic_1 ?_
      refine Ex_goto 17 d_rm_isRule_13 rfl ?_
      refine Ex_zreturn d_rm_isRule_17 rfl (by decide) ?_
      exact Pu_t (by omega)
theorem rm_rule_L {S : mj_S} {Q : Option Value → mj_H → Prop} {h : mj_H} (hs : HT h) {q a c : Nat} (hq : mI h 38 29 = nI q) (hq8 : q < 8)
    (kx : ∀ h1 : mj_H, (Fr (fun a _ => a = 58) h h1 ∧ (∀ x, (x < 640 * q ∨ 640 * q + 640 ≤ x) → mI h1 58 x = mI h 58 x) ∧ ∀ x, x < 640 → mI h1 58 (640 * q + x) = 0) → Ex S rm_rule 82 [some (.ref 38), some (.int (nI (a))), some (.int (nI (c))), some (.int (nI (640)))] [] h1 Q) : ∀ d k : Nat, k + d = 640 → ∀ h1 : mj_H, (Fr (fun a _ => a = 58) h h1 ∧ (∀ x, (x < 640 * q ∨ 640 * q + 640 ≤ x) → mI h1 58 x = mI h 58 x) ∧ ∀ x, x < k → mI h1 58 (640 * q + x) = 0) → Ex S rm_rule 53 [some (.ref 38), some (.int (nI (a))), some (.int (nI (c))), some (.int (nI (k)))] [] h1 Q := by
  intro d
  induction d with
  | zero =>
    intro k hkk h1 hI
    obtain rfl : 640 = k := by omega
    refine Ex_iload_n d_rm_rule_53 rfl ?_
    refine Ex_sipush d_rm_rule_54 sp_640 ?_
    refine Ex_icmp_geN (640) (640) 82 d_rm_rule_57 rfl rfl rfl (by omega) (by omega) (fun hc57 => ?_) (fun hc57 => ?_)
    · exact kx h1 hI
    · exfalso; omega
  | succ d ih =>
    intro k hkk h1 hI
    have hs1 : HT h1 := hI.1.ht hs (by decide)
    have h29 : mI h1 38 29 = nI q := by rw [hI.1.I (by have := HT_n hs; omega) (by decide)]; exact hq
    refine Ex_iload_n d_rm_rule_53 rfl ?_
    refine Ex_sipush d_rm_rule_54 sp_640 ?_
    refine Ex_icmp_geN (k) (640) 82 d_rm_rule_57 rfl rfl rfl (by omega) (by omega) (fun hc57 => ?_) (fun hc57 => ?_)
    · exfalso; omega
    · refine Ex_aload_n d_rm_rule_60 rfl ?_
      refine Ex_getR d_rm_rule_61 pf_rm_70 rfl (t_38 hs1) (r_38_28 hs1) ?_
      refine Ex_sipush d_rm_rule_64 sp_640 ?_
      refine Ex_aload_n d_rm_rule_67 rfl ?_
      refine Ex_getIE d_rm_rule_68 pf_rm_238 rfl (t_38 hs1) h29 ?_
      refine Ex_imulN (640) (q) d_rm_rule_71 rfl rfl ?_
      refine Ex_iload_n d_rm_rule_72 rfl ?_
      refine Ex_iaddN (640 * q) (k) d_rm_rule_73 rfl rfl ?_
      refine Ex_iconst d_rm_rule_74 ic_0 ?_
      refine Ex_iastoreN (a := (640 * q) + k) d_rm_rule_75 (t_58 hs1) rfl (by omega) (by decide) ?_
      refine Ex_iincN (k) 1 [some (.ref 38), some (.int (nI (a))), some (.int (nI (c))), some (.int (nI (k + 1)))] d_rm_rule_76 rfl rfl rfl rfl ?_
      refine Ex_goto 53 d_rm_rule_79 rfl ?_
      refine ih (k + 1) (by omega) _ ⟨Fr.sI hI.1 rfl, fun x hx => ?_, fun x hx => ?_⟩
      · rw [mI_oth (Or.inr (by omega))]
        exact hI.2.1 x hx
      · by_cases hxk : x = k
        · subst hxk
          rw [mI_self]
        · rw [mI_oth (Or.inr (by omega))]
          exact hI.2.2 x (by omega)
theorem rm_rule_s {S : mj_S} {h : mj_H} (hs : HT h) {R : SR} (hR : RM R h) {n : Nat} (hRO : RO n R) {r c : Int} (hr : -2147483648 ≤ r ∧ r < 2147483648) (hc : -2147483648 ≤ c ∧ c < 2147483648) : Cl S rm_rule [.ref 38, .int (J (r)), .int (J (c))] h (AnsN (okRu R r c) R.1 (RM (addR R r.toNat c.toNat)) WRuM h) := by
  show Ex S rm_rule 0 [some (.ref 38), some (.int (J (r))), some (.int (J (c))), none] [] h _
  have h8 := hRO.1
  refine Ex_aload_n d_rm_rule_0 rfl ?_
  refine Ex_getIE (y := (nI (R.1))) d_rm_rule_1 pf_rm_238 rfl (t_38 hs) (by first | exact hR.1 | (rw [mI_oth (Or.inl (by decide))]; exact hR.1)) ?_
  refine Ex_bipush d_rm_rule_4 bp_8 ?_
  refine Ex_icmp_eqN (R.1) (8) 29 d_rm_rule_6 rfl rfl rfl (by omega) (by omega) (fun hc6 => ?_) (fun hc6 => ?_)
  · refine Ex_iconst d_rm_rule_29 ic_m1 ?_
    refine Ex_ireturn d_rm_rule_30 rfl ?_
    exact Or.inl ⟨by unfold okRu; omega, rfl, rfl⟩
  · refine Ex_iload_n d_rm_rule_9 rfl ?_
    refine Ex_iconst d_rm_rule_10 ic_1 ?_
    refine Ex_icmp_ltZ (r) ((1)) 29 d_rm_rule_11 rfl rfl (by decide) (by omega) (by omega) (fun hc11 => ?_) (fun hc11 => ?_)
    · refine Ex_iconst d_rm_rule_29 ic_m1 ?_
      refine Ex_ireturn d_rm_rule_30 rfl ?_
      exact Or.inl ⟨by unfold okRu; omega, rfl, rfl⟩
    · refine Ex_iload_n d_rm_rule_14 rfl ?_
      refine Ex_iconst d_rm_rule_15 ic_4 ?_
      refine Ex_icmp_gtZ (r) ((4)) 29 d_rm_rule_16 rfl rfl (by decide) (by omega) (by omega) (fun hc16 => ?_) (fun hc16 => ?_)
      · refine Ex_iconst d_rm_rule_29 ic_m1 ?_
        refine Ex_ireturn d_rm_rule_30 rfl ?_
        exact Or.inl ⟨by unfold okRu; omega, rfl, rfl⟩
      · refine Ex_iload_n d_rm_rule_19 rfl ?_
        refine Ex_iconst d_rm_rule_20 ic_1 ?_
        refine Ex_icmp_ltZ (c) ((1)) 29 d_rm_rule_21 rfl rfl (by decide) (by omega) (by omega) (fun hc21 => ?_) (fun hc21 => ?_)
        · refine Ex_iconst d_rm_rule_29 ic_m1 ?_
          refine Ex_ireturn d_rm_rule_30 rfl ?_
          exact Or.inl ⟨by unfold okRu; omega, rfl, rfl⟩
        · refine Ex_iload_n d_rm_rule_24 rfl ?_
          refine Ex_iconst d_rm_rule_25 ic_4 ?_
          refine Ex_icmp_leZ (c) ((4)) 31 d_rm_rule_26 rfl rfl (by decide) (by omega) (by omega) (fun hc26 => ?_) (fun hc26 => ?_)
          · obtain ⟨a, rfl⟩ : ∃ a : Nat, r = (a : Int) := ⟨r.toNat, by omega⟩
            obtain ⟨b, rfl⟩ : ∃ b : Nat, c = (b : Int) := ⟨c.toNat, by omega⟩
            simp only [← nIJ]
            refine Ex_aload_n d_rm_rule_31 rfl ?_
            refine Ex_getR d_rm_rule_32 pf_rm_64 rfl (t_38 hs) (r_38_26 hs) ?_
            refine Ex_aload_n d_rm_rule_35 rfl ?_
            refine Ex_getIE (y := (nI (R.1))) d_rm_rule_36 pf_rm_238 rfl (t_38 hs) (by first | exact hR.1 | (rw [mI_oth (Or.inl (by decide))]; exact hR.1)) ?_
            refine Ex_iload_n d_rm_rule_39 rfl ?_
            refine Ex_iastoreN (a := R.1) d_rm_rule_40 (t_56 hs) rfl (by omega) (by decide) ?_
            refine Ex_aload_n d_rm_rule_41 rfl ?_
            refine Ex_getR d_rm_rule_42 pf_rm_67 rfl (t_38 hs) (r_38_27 hs) ?_
            refine Ex_aload_n d_rm_rule_45 rfl ?_
            refine Ex_getIE (y := (nI (R.1))) d_rm_rule_46 pf_rm_238 rfl (t_38 hs) (by first | exact hR.1 | (rw [mI_oth (Or.inl (by decide))]; exact hR.1)) ?_
            refine Ex_iload_n d_rm_rule_49 rfl ?_
            refine Ex_iastoreN (a := R.1) d_rm_rule_50 (t_57 hs) rfl (by omega) (by decide) ?_
            refine Ex_iconst d_rm_rule_51 ic_0 ?_
            refine Ex_istore_n [some (.ref 38), some (.int (nI (a))), some (.int (nI (b))), some (.int (0))] d_rm_rule_52 (Nat.le_of_ble_eq_true rfl) rfl ?_
            refine rm_rule_L (h := (wI (wI h 56 R.1 (nI a)) 57 R.1 (nI b))) hs (q := R.1) (by rw [mI_oth (Or.inl (by decide)), mI_oth (Or.inl (by decide))]; exact hR.1) (by omega) (fun h1 hI => ?_) 640 0 (by omega) _ ⟨Fr.rf, fun _ _ => rfl, fun x hx => absurd hx (by omega)⟩
            have hnn := HT_n hs
            have hs1 : HT h1 := hI.1.ht (show HT _ from hs) (by decide)
            have h29 : mI h1 38 29 = nI R.1 := by rw [hI.1.I (by show 38 < mN h; omega) (by decide), mI_oth (Or.inl (by decide)), mI_oth (Or.inl (by decide))]; exact hR.1
            refine Ex_aload_n d_rm_rule_82 rfl ?_
            refine Ex_dup rfl d_rm_rule_83 ?_
            refine Ex_getIE d_rm_rule_84 pf_rm_238 rfl (t_38 hs1) h29 ?_
            refine Ex_iconst d_rm_rule_87 ic_1 ?_
            refine Ex_iaddN (R.1) (1) d_rm_rule_88 rfl rfl ?_
            refine Ex_putI d_rm_rule_89 pf_rm_238 (Or.inl rfl) (t_38 hs1) (Or.inl rfl) ?_
            refine Ex_aload_n d_rm_rule_92 rfl ?_
            refine Ex_getIE d_rm_rule_93 pf_rm_238 rfl (t_38 hs1) (mI_self _ _ _ _) ?_
            refine Ex_iconst d_rm_rule_96 ic_1 ?_
            refine Ex_isubN (R.1 + 1) (1) d_rm_rule_97 rfl rfl (by omega) ?_
            refine Ex_ireturn d_rm_rule_98 rfl ?_
            refine Or.inr ⟨⟨by omega, by omega, by omega, by omega, by omega⟩, by rw [Nat.add_sub_cancel], ⟨mI_self _ _ _ _, fun q hq => ?_⟩, ?_⟩
            · have hq : q < R.1 + 1 := hq
              have e1 : ∀ x, mI (wI h1 38 29 (nI (R.1 + 1))) 56 x = va_up (mI h 56) R.1 (nI a) x := fun x => by rw [mI_oth (Or.inl (by decide)), hI.1.I (by show 56 < mN h; omega) (by decide), mI_oth (Or.inl (by decide)), mI_wI, if_pos rfl]; rfl
              have e2 : ∀ x, mI (wI h1 38 29 (nI (R.1 + 1))) 57 x = va_up (mI h 57) R.1 (nI b) x := fun x => by rw [mI_oth (Or.inl (by decide)), hI.1.I (by show 57 < mN h; omega) (by decide), mI_wI, if_pos rfl, mI_oth (Or.inl (by decide))]; rfl
              have e3 : ∀ x, mI (wI h1 38 29 (nI (R.1 + 1))) 58 x = mI h1 58 x := fun x => by rw [mI_oth (Or.inl (by decide))]
              have e4 : ∀ x, mI (wI (wI h 56 R.1 (nI a)) 57 R.1 (nI b)) 58 x = mI h 58 x := fun x => by rw [mI_oth (Or.inl (by decide)), mI_oth (Or.inl (by decide))]
              rw [e1, e2]
              simp only [e3, Int.toNat_natCast]
              show _ = nI (va_up (rR R) R.1 a q) ∧ _ = nI (va_up (rC R) R.1 b q) ∧ ∀ k, k < 640 → _ = eM (va_up (rB R) R.1 (fun _ => none) q k)
              unfold va_up
              by_cases hq1 : q = R.1
              · subst hq1
                simp only [if_pos trivial]
                exact ⟨trivial, trivial, fun k hk => hI.2.2 k hk⟩
              · simp only [if_neg hq1]
                obtain ⟨b1, b2, b3⟩ := hR.2 q (by omega)
                refine ⟨b1, b2, fun k hk => ?_⟩
                rw [hI.2.1 _ (by omega), e4]
                exact b3 k hk
            · refine Fr.sI (Fr.tr (Fr.sI (Fr.sI Fr.rf ?_) ?_) (hI.1.mono ?_)) ?_
              · unfold WRuM; omega
              · unfold WRuM; omega
              · intro a k z; unfold WRuM; omega
              · unfold WRuM; omega
          · refine Ex_iconst d_rm_rule_29 ic_m1 ?_
            refine Ex_ireturn d_rm_rule_30 rfl ?_
            exact Or.inl ⟨by unfold okRu; omega, rfl, rfl⟩
theorem RM_set {R : SR} {h : mj_H} (hR : RM R h) {r t : Nat} (hr : r < R.1) (ht : t < 640) (c : Tl) {x : Nat} (hx : x = 640 * r + t := by omega) : RM (setR R r t c) (wI h 58 x (eM c)) := by
  subst hx
  refine ⟨by rw [mI_oth (Or.inl (by decide))]; exact hR.1, fun q hq => ?_⟩
  obtain ⟨a1, a2, a3⟩ := hR.2 q hq
  refine ⟨by rw [mI_oth (Or.inl (by decide))]; exact a1, by rw [mI_oth (Or.inl (by decide))]; exact a2, fun k hk => ?_⟩
  show _ = eM (va_up (rB R) r (va_up (rB R r) t c) q k)
  unfold va_up
  by_cases hqr : q = r
  · subst hqr
    rw [if_pos rfl]
    show _ = eM (if k = t then c else rB R q k)
    by_cases hkt : k = t
    · subst hkt
      rw [if_pos rfl, mI_self]
    · rw [if_neg hkt, mI_oth (Or.inr (by omega))]
      exact a3 k hk
  · rw [if_neg hqr, mI_oth (Or.inr (by omega))]
    exact a3 k hk
theorem rm_becomes_s {S : mj_S} {h : mj_H} (hs : HT h) {K : SK} (hK : KM K h) (hO : KO K) {R : SR} (hR : RM R h) (hRO : RO K.1 R) {r k i j o m : Int} (hr : -2147483648 ≤ r ∧ r < 2147483648) (hk : -2147483648 ≤ k ∧ k < 2147483648) (hi : -2147483648 ≤ i ∧ i < 2147483648) (hj : -2147483648 ≤ j ∧ j < 2147483648) (ho : -2147483648 ≤ o ∧ o < 2147483648) (hm : -2147483648 ≤ m ∧ m < 2147483648) : Cl S rm_becomes [.ref 38, .int (J (r)), .int (J (k)), .int (J (i)), .int (J (j)), .int (J (o)), .int (J (m))] h (Ans (okBe K R r k i j o m) (RM R) (RM (beR K R r k i j o m)) WRuM h) := by
  show Ex S rm_becomes 0 [some (.ref 38), some (.int (J (r))), some (.int (J (k))), some (.int (J (i))), some (.int (J (j))), some (.int (J (o))), some (.int (J (m)))] [] h _
  have h8 := hRO.1
  have hk40 := hO.1
  refine Ex_aload_n d_rm_becomes_0 rfl ?_
  refine Ex_iload_n d_rm_becomes_1 rfl ?_
  refine Ex_pV1 (v := .int (bI (decide (0 ≤ r ∧ r < R.1)))) d_rm_becomes_2 pk_rm_becomes_241 (t_38 hs) (rm_isRule_s hs hR hRO hr) ?_
  refine Ex_if_eqB (decide (0 ≤ r ∧ r < R.1)) 69 d_rm_becomes_5 rfl rfl (fun hc5 => ?_) (fun hc5 => ?_)
  · rw [decide_eq_false_iff_not] at hc5
    refine Ex_iconst d_rm_becomes_69 ic_0 ?_
    refine Ex_zreturn d_rm_becomes_70 rfl (by decide) ?_
    exact Or.inl ⟨by unfold okBe; (try simp only [Int.toNat_natCast]); omega, rfl, rfl⟩
  · rw [decide_eq_true_eq] at hc5
    obtain ⟨hz1, hz2⟩ := hRO.2 r.toNat (by omega)
    obtain ⟨hv1, hv2, hv3⟩ := hR.2 r.toNat (by omega)
    obtain ⟨a, rfl⟩ : ∃ a : Nat, r = (a : Int) := ⟨r.toNat, by omega⟩
    simp only [← nIJ]
    rw [Int.toNat_natCast] at hz1 hz2 hv1 hv2 hv3
    refine Ex_aload_n d_rm_becomes_8 rfl ?_
    refine Ex_iload_n d_rm_becomes_9 rfl ?_
    refine Ex_pV1 (v := .int (bI (decide (0 ≤ k ∧ k < K.1)))) d_rm_becomes_10 pk_rm_becomes_145 (t_38 hs) (rm_isKind_s hs hK hO hk) ?_
    refine Ex_if_eqB (decide (0 ≤ k ∧ k < K.1)) 69 d_rm_becomes_13 rfl rfl (fun hc13 => ?_) (fun hc13 => ?_)
    · rw [decide_eq_false_iff_not] at hc13
      refine Ex_iconst d_rm_becomes_69 ic_0 ?_
      refine Ex_zreturn d_rm_becomes_70 rfl (by decide) ?_
      exact Or.inl ⟨by unfold okBe; (try simp only [Int.toNat_natCast]); omega, rfl, rfl⟩
    · rw [decide_eq_true_eq] at hc13
      refine Ex_iload_n d_rm_becomes_16 rfl ?_
      refine Ex_if_ltZ (i) 69 d_rm_becomes_17 rfl rfl (by omega) (fun hc17 => ?_) (fun hc17 => ?_)
      · refine Ex_iconst d_rm_becomes_69 ic_0 ?_
        refine Ex_zreturn d_rm_becomes_70 rfl (by decide) ?_
        exact Or.inl ⟨by unfold okBe; (try simp only [Int.toNat_natCast]); omega, rfl, rfl⟩
      · refine Ex_iload_n d_rm_becomes_20 rfl ?_
        refine Ex_aload_n d_rm_becomes_21 rfl ?_
        refine Ex_getR d_rm_becomes_22 pf_rm_64 rfl (t_38 hs) (r_38_26 hs) ?_
        refine Ex_iload_n d_rm_becomes_25 rfl ?_
        refine Ex_ialoadN (a := a) d_rm_becomes_26 (t_56 hs) rfl (by omega) (by decide) hv1 ?_
        refine Ex_icmp_geZ (i) (((rR R a : Nat) : Int)) 69 d_rm_becomes_27 rfl rfl (nIJ _) (by omega) (by omega) (fun hc27 => ?_) (fun hc27 => ?_)
        · refine Ex_iconst d_rm_becomes_69 ic_0 ?_
          refine Ex_zreturn d_rm_becomes_70 rfl (by decide) ?_
          exact Or.inl ⟨by unfold okBe; (try simp only [Int.toNat_natCast]); omega, rfl, rfl⟩
        · refine Ex_iload d_rm_becomes_30 rfl ?_
          refine Ex_if_ltZ (j) 69 d_rm_becomes_32 rfl rfl (by omega) (fun hc32 => ?_) (fun hc32 => ?_)
          · refine Ex_iconst d_rm_becomes_69 ic_0 ?_
            refine Ex_zreturn d_rm_becomes_70 rfl (by decide) ?_
            exact Or.inl ⟨by unfold okBe; (try simp only [Int.toNat_natCast]); omega, rfl, rfl⟩
          · refine Ex_iload d_rm_becomes_35 rfl ?_
            refine Ex_aload_n d_rm_becomes_37 rfl ?_
            refine Ex_getR d_rm_becomes_38 pf_rm_67 rfl (t_38 hs) (r_38_27 hs) ?_
            refine Ex_iload_n d_rm_becomes_41 rfl ?_
            refine Ex_ialoadN (a := a) d_rm_becomes_42 (t_57 hs) rfl (by omega) (by decide) hv2 ?_
            refine Ex_icmp_geZ (j) (((rC R a : Nat) : Int)) 69 d_rm_becomes_43 rfl rfl (nIJ _) (by omega) (by omega) (fun hc43 => ?_) (fun hc43 => ?_)
            · refine Ex_iconst d_rm_becomes_69 ic_0 ?_
              refine Ex_zreturn d_rm_becomes_70 rfl (by decide) ?_
              exact Or.inl ⟨by unfold okBe; (try simp only [Int.toNat_natCast]); omega, rfl, rfl⟩
            · refine Ex_iload d_rm_becomes_46 rfl ?_
              refine Ex_iconst d_rm_becomes_48 ic_m1 ?_
              refine Ex_icmp_eqZ (o) ((-1)) 71 d_rm_becomes_49 rfl rfl (by decide) (by omega) (by omega) (fun hc49 => ?_) (fun hc49 => ?_)
              · obtain ⟨b, rfl⟩ : ∃ b : Nat, k = (b : Int) := ⟨k.toNat, by omega⟩
                obtain ⟨c, rfl⟩ : ∃ c : Nat, i = (c : Int) := ⟨i.toNat, by omega⟩
                obtain ⟨d, rfl⟩ : ∃ d : Nat, j = (d : Int) := ⟨j.toNat, by omega⟩
                simp only [← nIJ]
                refine Ex_aload_n d_rm_becomes_71 rfl ?_
                refine Ex_getR d_rm_becomes_72 pf_rm_70 rfl (t_38 hs) (r_38_28 hs) ?_
                refine Ex_sipush d_rm_becomes_75 sp_640 ?_
                refine Ex_iload_n d_rm_becomes_78 rfl ?_
                refine Ex_imulN (640) (a) d_rm_becomes_79 rfl rfl ?_
                refine Ex_bipush d_rm_becomes_80 bp_16 ?_
                refine Ex_iload_n d_rm_becomes_82 rfl ?_
                refine Ex_imulN (16) (b) d_rm_becomes_83 rfl rfl ?_
                refine Ex_iaddN (640 * a) (16 * b) d_rm_becomes_84 rfl rfl ?_
                refine Ex_iconst d_rm_becomes_85 ic_4 ?_
                refine Ex_iload_n d_rm_becomes_86 rfl ?_
                refine Ex_imulN (4) (c) d_rm_becomes_87 rfl rfl ?_
                refine Ex_iaddN ((640 * a) + (16 * b)) (4 * c) d_rm_becomes_88 rfl rfl ?_
                refine Ex_iload d_rm_becomes_89 rfl ?_
                refine Ex_iaddN (((640 * a) + (16 * b)) + (4 * c)) (d) d_rm_becomes_91 rfl rfl ?_
                refine Ex_iload d_rm_becomes_92 rfl ?_
                refine Ex_iconst d_rm_becomes_94 ic_m1 ?_
                refine Ex_icmp_neZ (o) ((-1)) 102 d_rm_becomes_95 rfl rfl (by decide) (by omega) (by omega) (fun hc95 => ?_) (fun hc95 => ?_)
                · obtain ⟨u, rfl⟩ : ∃ u : Nat, o = (u : Int) := ⟨o.toNat, by omega⟩
                  obtain ⟨v, rfl⟩ : ∃ v : Nat, m = (v : Int) := ⟨m.toNat, by omega⟩
                  simp only [← nIJ]
                  refine Ex_iload d_rm_becomes_102 rfl ?_
                  refine Ex_aload_n d_rm_becomes_104 rfl ?_
                  refine Ex_iload d_rm_becomes_105 rfl ?_
                  refine Ex_iload d_rm_becomes_107 rfl ?_
                  refine Ex_pV2 (v := .int (nI (kLie K u v))) d_rm_becomes_109 pk_rm_becomes_148 (t_38 hs) (rm_lies_s hs hK hO (by omega) (by omega)) ?_
                  refine Ex_iconst d_rm_becomes_112 ic_0 ?_
                  refine Ex_pS3 (v := .int (eM (some (u, kLie K u v, 0)))) d_rm_becomes_113 pk_rm_becomes_166 (rm_cell_0 (by have := hO.1; omega) (kLie_lt hO (by omega))) ?_
                  refine Ex_iastoreN (a := (((640 * a) + (16 * b)) + (4 * c)) + d) d_rm_becomes_116 (t_58 hs) rfl (by omega) (by decide) ?_
                  refine Ex_iconst d_rm_becomes_117 ic_1 ?_
                  refine Ex_zreturn d_rm_becomes_118 rfl (by decide) ?_
                  refine Or.inr ⟨⟨by omega, by omega, by omega, by omega, by omega, by rw [Int.toNat_natCast]; omega, by omega, by rw [Int.toNat_natCast]; omega, by omega⟩, rfl, ?_, Fr.sI Fr.rf (by unfold WRuM; omega)⟩
                  unfold beR putC
                  rw [if_neg (by omega)]
                  simp only [Int.toNat_natCast]
                  exact RM_set hR (by omega) (by omega) _
                · refine Ex_iconst d_rm_becomes_98 ic_0 ?_
                  refine Ex_goto 116 d_rm_becomes_99 rfl ?_
                  refine Ex_iastoreN (a := (((640 * a) + (16 * b)) + (4 * c)) + d) d_rm_becomes_116 (t_58 hs) rfl (by omega) (by decide) ?_
                  refine Ex_iconst d_rm_becomes_117 ic_1 ?_
                  refine Ex_zreturn d_rm_becomes_118 rfl (by decide) ?_
                  refine Or.inr ⟨⟨by omega, by omega, by omega, by omega, by omega, by rw [Int.toNat_natCast]; omega, by omega, by rw [Int.toNat_natCast]; omega, by omega⟩, rfl, ?_, Fr.sI Fr.rf (by unfold WRuM; omega)⟩
                  unfold beR putC
                  rw [if_pos (by omega)]
                  simp only [Int.toNat_natCast]
                  exact RM_set hR (by omega) (by omega) _
              · refine Ex_aload_n d_rm_becomes_52 rfl ?_
                refine Ex_iload d_rm_becomes_53 rfl ?_
                refine Ex_pV1 (v := .int (bI (decide (0 ≤ o ∧ o < K.1)))) d_rm_becomes_55 pk_rm_becomes_145 (t_38 hs) (rm_isKind_s hs hK hO ho) ?_
                refine Ex_if_eqB (decide (0 ≤ o ∧ o < K.1)) 69 d_rm_becomes_58 rfl rfl (fun hc58 => ?_) (fun hc58 => ?_)
                · rw [decide_eq_false_iff_not] at hc58
                  refine Ex_iconst d_rm_becomes_69 ic_0 ?_
                  refine Ex_zreturn d_rm_becomes_70 rfl (by decide) ?_
                  exact Or.inl ⟨by unfold okBe; (try simp only [Int.toNat_natCast]); omega, rfl, rfl⟩
                · rw [decide_eq_true_eq] at hc58
                  refine Ex_iload d_rm_becomes_61 rfl ?_
                  refine Ex_pS1 (v := .int (bI (decide (0 ≤ m ∧ m < 8)))) d_rm_becomes_63 pk_rm_becomes_137 (rm_isMove_s hm) ?_
                  refine Ex_if_neB (decide (0 ≤ m ∧ m < 8)) 71 d_rm_becomes_66 rfl rfl (fun hc66 => ?_) (fun hc66 => ?_)
                  · rw [decide_eq_true_eq] at hc66
                    obtain ⟨b, rfl⟩ : ∃ b : Nat, k = (b : Int) := ⟨k.toNat, by omega⟩
                    obtain ⟨c, rfl⟩ : ∃ c : Nat, i = (c : Int) := ⟨i.toNat, by omega⟩
                    obtain ⟨d, rfl⟩ : ∃ d : Nat, j = (d : Int) := ⟨j.toNat, by omega⟩
                    simp only [← nIJ]
                    refine Ex_aload_n d_rm_becomes_71 rfl ?_
                    refine Ex_getR d_rm_becomes_72 pf_rm_70 rfl (t_38 hs) (r_38_28 hs) ?_
                    refine Ex_sipush d_rm_becomes_75 sp_640 ?_
                    refine Ex_iload_n d_rm_becomes_78 rfl ?_
                    refine Ex_imulN (640) (a) d_rm_becomes_79 rfl rfl ?_
                    refine Ex_bipush d_rm_becomes_80 bp_16 ?_
                    refine Ex_iload_n d_rm_becomes_82 rfl ?_
                    refine Ex_imulN (16) (b) d_rm_becomes_83 rfl rfl ?_
                    refine Ex_iaddN (640 * a) (16 * b) d_rm_becomes_84 rfl rfl ?_
                    refine Ex_iconst d_rm_becomes_85 ic_4 ?_
                    refine Ex_iload_n d_rm_becomes_86 rfl ?_
                    refine Ex_imulN (4) (c) d_rm_becomes_87 rfl rfl ?_
                    refine Ex_iaddN ((640 * a) + (16 * b)) (4 * c) d_rm_becomes_88 rfl rfl ?_
                    refine Ex_iload d_rm_becomes_89 rfl ?_
                    refine Ex_iaddN (((640 * a) + (16 * b)) + (4 * c)) (d) d_rm_becomes_91 rfl rfl ?_
                    refine Ex_iload d_rm_becomes_92 rfl ?_
                    refine Ex_iconst d_rm_becomes_94 ic_m1 ?_
                    refine Ex_icmp_neZ (o) ((-1)) 102 d_rm_becomes_95 rfl rfl (by decide) (by omega) (by omega) (fun hc95 => ?_) (fun hc95 => ?_)
                    · obtain ⟨u, rfl⟩ : ∃ u : Nat, o = (u : Int) := ⟨o.toNat, by omega⟩
                      obtain ⟨v, rfl⟩ : ∃ v : Nat, m = (v : Int) := ⟨m.toNat, by omega⟩
                      simp only [← nIJ]
                      refine Ex_iload d_rm_becomes_102 rfl ?_
                      refine Ex_aload_n d_rm_becomes_104 rfl ?_
                      refine Ex_iload d_rm_becomes_105 rfl ?_
                      refine Ex_iload d_rm_becomes_107 rfl ?_
                      refine Ex_pV2 (v := .int (nI (kLie K u v))) d_rm_becomes_109 pk_rm_becomes_148 (t_38 hs) (rm_lies_s hs hK hO (by omega) (by omega)) ?_
                      refine Ex_iconst d_rm_becomes_112 ic_0 ?_
                      refine Ex_pS3 (v := .int (eM (some (u, kLie K u v, 0)))) d_rm_becomes_113 pk_rm_becomes_166 (rm_cell_0 (by have := hO.1; omega) (kLie_lt hO (by omega))) ?_
                      refine Ex_iastoreN (a := (((640 * a) + (16 * b)) + (4 * c)) + d) d_rm_becomes_116 (t_58 hs) rfl (by omega) (by decide) ?_
                      refine Ex_iconst d_rm_becomes_117 ic_1 ?_
                      refine Ex_zreturn d_rm_becomes_118 rfl (by decide) ?_
                      refine Or.inr ⟨⟨by omega, by omega, by omega, by omega, by omega, by rw [Int.toNat_natCast]; omega, by omega, by rw [Int.toNat_natCast]; omega, by omega⟩, rfl, ?_, Fr.sI Fr.rf (by unfold WRuM; omega)⟩
                      unfold beR putC
                      rw [if_neg (by omega)]
                      simp only [Int.toNat_natCast]
                      exact RM_set hR (by omega) (by omega) _
                    · refine Ex_iconst d_rm_becomes_98 ic_0 ?_
                      refine Ex_goto 116 d_rm_becomes_99 rfl ?_
                      refine Ex_iastoreN (a := (((640 * a) + (16 * b)) + (4 * c)) + d) d_rm_becomes_116 (t_58 hs) rfl (by omega) (by decide) ?_
                      refine Ex_iconst d_rm_becomes_117 ic_1 ?_
                      refine Ex_zreturn d_rm_becomes_118 rfl (by decide) ?_
                      refine Or.inr ⟨⟨by omega, by omega, by omega, by omega, by omega, by rw [Int.toNat_natCast]; omega, by omega, by rw [Int.toNat_natCast]; omega, by omega⟩, rfl, ?_, Fr.sI Fr.rf (by unfold WRuM; omega)⟩
                      unfold beR putC
                      rw [if_pos (by omega)]
                      simp only [Int.toNat_natCast]
                      exact RM_set hR (by omega) (by omega) _
                  · rw [decide_eq_false_iff_not] at hc66
                    refine Ex_iconst d_rm_becomes_69 ic_0 ?_
                    refine Ex_zreturn d_rm_becomes_70 rfl (by decide) ?_
                    exact Or.inl ⟨by unfold okBe; (try simp only [Int.toNat_natCast]); omega, rfl, rfl⟩
theorem ru_mayBe_s {S : mj_S} {h : mj_H} {r c : Int} (hr : -2147483648 ≤ r ∧ r < 2147483648) (hc : -2147483648 ≤ c ∧ c < 2147483648) : Cl S ru_mayBe [.int (J (r)), .int (J (c))] h (Pu (.int (bI (decide (1 ≤ r ∧ r ≤ 4 ∧ 1 ≤ c ∧ c ≤ 4)))) h) := by
  show Ex S ru_mayBe 0 [some (.int (J (r))), some (.int (J (c)))] [] h _
  refine Ex_iload_n d_ru_mayBe_0 rfl ?_
  refine Ex_iconst d_ru_mayBe_1 ic_1 ?_
  refine Ex_icmp_ltZ (r) ((1)) 24 d_ru_mayBe_2 rfl rfl (by decide) (by omega) (by omega) (fun hc2 => ?_) (fun hc2 => ?_)
  · refine Ex_iconst d_ru_mayBe_24 ic_0 ?_
    refine Ex_zreturn d_ru_mayBe_25 rfl (by decide) ?_
    exact Pu_f (by omega)
  · refine Ex_iload_n d_ru_mayBe_5 rfl ?_
    refine Ex_iconst d_ru_mayBe_6 ic_4 ?_
    refine Ex_icmp_gtZ (r) ((4)) 24 d_ru_mayBe_7 rfl rfl (by decide) (by omega) (by omega) (fun hc7 => ?_) (fun hc7 => ?_)
    · refine Ex_iconst d_ru_mayBe_24 ic_0 ?_
      refine Ex_zreturn d_ru_mayBe_25 rfl (by decide) ?_
      exact Pu_f (by omega)
    · refine Ex_iload_n d_ru_mayBe_10 rfl ?_
      refine Ex_iconst d_ru_mayBe_11 ic_1 ?_
      refine Ex_icmp_ltZ (c) ((1)) 24 d_ru_mayBe_12 rfl rfl (by decide) (by omega) (by omega) (fun hc12 => ?_) (fun hc12 => ?_)
      · refine Ex_iconst d_ru_mayBe_24 ic_0 ?_
        refine Ex_zreturn d_ru_mayBe_25 rfl (by decide) ?_
        exact Pu_f (by omega)
      · refine Ex_iload_n d_ru_mayBe_15 rfl ?_
        refine Ex_iconst d_ru_mayBe_16 ic_4 ?_
        refine Ex_icmp_gtZ (c) ((4)) 24 d_ru_mayBe_17 rfl rfl (by decide) (by omega) (by omega) (fun hc17 => ?_) (fun hc17 => ?_)
        · refine Ex_iconst d_ru_mayBe_24 ic_0 ?_
          refine Ex_zreturn d_ru_mayBe_25 rfl (by decide) ?_
          exact Pu_f (by omega)
        · refine Ex_iconst d_ru_mayBe_20 ic_1 ?_
          refine Ex_goto 25 d_ru_mayBe_21 rfl ?_
          refine Ex_zreturn d_ru_mayBe_25 rfl (by decide) ?_
          exact Pu_t (by omega)
theorem ru_hasPlace_s {S : mj_S} {h : mj_H} {R : SR} {Y : OW} {n : Nat} (hRO : RO n R) {r a b c d : Nat} (hr : r < R.1) (hx : RuC1 R Y h r a b c d) {i j : Int} (hi : -2147483648 ≤ i ∧ i < 2147483648) (hj : -2147483648 ≤ j ∧ j < 2147483648) : Cl S ru_hasPlace [.ref (a), .int (J (i)), .int (J (j))] h (Pu (.int (bI (decide (0 ≤ i ∧ i < rR R r ∧ 0 ≤ j ∧ j < rC R r)))) h) := by
  show Ex S ru_hasPlace 0 [some (.ref (a)), some (.int (J (i))), some (.int (J (j)))] [] h _
  obtain ⟨hz1, hz2⟩ := hRO.2 r hr
  refine Ex_iload_n d_ru_hasPlace_0 rfl ?_
  refine Ex_if_ltZ (i) 28 d_ru_hasPlace_1 rfl rfl (by omega) (fun hc1 => ?_) (fun hc1 => ?_)
  · refine Ex_iconst d_ru_hasPlace_28 ic_0 ?_
    refine Ex_zreturn d_ru_hasPlace_29 rfl (by decide) ?_
    exact Pu_f (by omega)
  · refine Ex_iload_n d_ru_hasPlace_4 rfl ?_
    refine Ex_aload_n d_ru_hasPlace_5 rfl ?_
    refine Ex_getIE d_ru_hasPlace_6 pf_ru_24 rfl hx.2.1.2.1 hx.2.2.1 ?_
    refine Ex_icmp_geZ (i) (((rR R r : Nat) : Int)) 28 d_ru_hasPlace_9 rfl rfl (nIJ _) (by omega) (by omega) (fun hc9 => ?_) (fun hc9 => ?_)
    · refine Ex_iconst d_ru_hasPlace_28 ic_0 ?_
      refine Ex_zreturn d_ru_hasPlace_29 rfl (by decide) ?_
      exact Pu_f (by omega)
    · refine Ex_iload_n d_ru_hasPlace_12 rfl ?_
      refine Ex_if_ltZ (j) 28 d_ru_hasPlace_13 rfl rfl (by omega) (fun hc13 => ?_) (fun hc13 => ?_)
      · refine Ex_iconst d_ru_hasPlace_28 ic_0 ?_
        refine Ex_zreturn d_ru_hasPlace_29 rfl (by decide) ?_
        exact Pu_f (by omega)
      · refine Ex_iload_n d_ru_hasPlace_16 rfl ?_
        refine Ex_aload_n d_ru_hasPlace_17 rfl ?_
        refine Ex_getIE d_ru_hasPlace_18 pf_ru_28 rfl hx.2.1.2.1 hx.2.2.2.1 ?_
        refine Ex_icmp_geZ (j) (((rC R r : Nat) : Int)) 28 d_ru_hasPlace_21 rfl rfl (nIJ _) (by omega) (by omega) (fun hc21 => ?_) (fun hc21 => ?_)
        · refine Ex_iconst d_ru_hasPlace_28 ic_0 ?_
          refine Ex_zreturn d_ru_hasPlace_29 rfl (by decide) ?_
          exact Pu_f (by omega)
        · refine Ex_iconst d_ru_hasPlace_24 ic_1 ?_
          refine Ex_goto 29 d_ru_hasPlace_25 rfl ?_
          refine Ex_zreturn d_ru_hasPlace_29 rfl (by decide) ?_
          exact Pu_t (by omega)
theorem ru_hasCell_s {S : mj_S} {h : mj_H} {R : SR} {Y : OW} {n : Nat} (hRO : RO n R) {r a b c d : Nat} (hr : r < R.1) (hx : RuC1 R Y h r a b c d) {k i j : Nat} (hk : k < 40) (hi : i < rR R r) (hj : j < rC R r) : Cl S ru_hasCell [.ref (a), .int (nI (k)), .int (nI (i)), .int (nI (j))] h (Pu (.int (bI true)) h) := by
  show Ex S ru_hasCell 0 [some (.ref (a)), some (.int (nI (k))), some (.int (nI (i))), some (.int (nI (j)))] [] h _
  obtain ⟨hz1, hz2⟩ := hRO.2 r hr
  refine Ex_iload_n d_ru_hasCell_0 rfl ?_
  refine Ex_if_ltN (k) 23 d_ru_hasCell_1 rfl rfl (by omega) (fun hc1 => ?_) (fun hc1 => ?_)
  · exfalso; omega
  · refine Ex_iload_n d_ru_hasCell_4 rfl ?_
    refine Ex_bipush d_ru_hasCell_5 bp_40 ?_
    refine Ex_icmp_geN (k) (40) 23 d_ru_hasCell_7 rfl rfl rfl (by omega) (by omega) (fun hc7 => ?_) (fun hc7 => ?_)
    · exfalso; omega
    · refine Ex_aload_n d_ru_hasCell_10 rfl ?_
      refine Ex_iload_n d_ru_hasCell_11 rfl ?_
      refine Ex_iload_n d_ru_hasCell_12 rfl ?_
      refine Ex_pV2 (v := .int (bI (decide (0 ≤ (i : Int) ∧ (i : Int) < rR R r ∧ 0 ≤ (j : Int) ∧ (j : Int) < rC R r)))) d_ru_hasCell_13 pk_ru_hasCell_39 hx.2.1.2.1 (show Cl S ru_hasPlace [.ref a, .int (nI i), .int (nI j)] h _ by rw [nIJ i, nIJ j]; exact ru_hasPlace_s hRO hr hx (by omega) (by omega)) ?_
      refine Ex_if_eqB (decide (0 ≤ (i : Int) ∧ (i : Int) < rR R r ∧ 0 ≤ (j : Int) ∧ (j : Int) < rC R r)) 23 d_ru_hasCell_16 rfl rfl (fun hc16 => ?_) (fun hc16 => ?_)
      · rw [decide_eq_false_iff_not] at hc16
        exfalso; omega
      · rw [decide_eq_true_eq] at hc16
        refine Ex_iconst d_ru_hasCell_19 ic_1 ?_
        refine Ex_goto 24 d_ru_hasCell_20 rfl ?_
        refine Ex_zreturn d_ru_hasCell_24 rfl (by decide) ?_
        exact ⟨rfl, rfl⟩
theorem ru_setCell_s {S : mj_S} {h : mj_H} {R : SR} {Y : OW} {n : Nat} (hRO : RO n R) {r a b c d : Nat} (hr : r < R.1) (hx : RuC1 R Y h r a b c d) {k i j : Nat} (hk : k < 40) (hi : i < rR R r) (hj : j < rC R r) (v : Int32) : Cl S ru_setCell [.ref (a), .int (nI (k)), .int (nI (i)), .int (nI (j)), .int (v)] h (fun r h' => r = none ∧ h' = wI h b (k * 16 + i * 4 + j) v) := by
  show Ex S ru_setCell 0 [some (.ref (a)), some (.int (nI (k))), some (.int (nI (i))), some (.int (nI (j))), some (.int (v))] [] h _
  obtain ⟨hz1, hz2⟩ := hRO.2 r hr
  refine Ex_aload_n d_ru_setCell_0 rfl ?_
  refine Ex_iload_n d_ru_setCell_1 rfl ?_
  refine Ex_iload_n d_ru_setCell_2 rfl ?_
  refine Ex_iload_n d_ru_setCell_3 rfl ?_
  refine Ex_pV3 (v := .int (bI (true))) d_ru_setCell_4 pk_ru_setCell_43 hx.2.1.2.1 (ru_hasCell_s hRO hr hx hk hi hj) ?_
  refine Ex_if_eqB (true) 27 d_ru_setCell_7 rfl rfl (fun hc7 => ?_) (fun hc7 => ?_)
  · cases hc7
  · refine Ex_aload_n d_ru_setCell_10 rfl ?_
    refine Ex_getR d_ru_setCell_11 pf_ru_13 rfl hx.2.1.2.1 (congrArg va_rf hx.2.1.2.2.1) ?_
    refine Ex_iload_n d_ru_setCell_14 rfl ?_
    refine Ex_bipush d_ru_setCell_15 bp_16 ?_
    refine Ex_imulN (k) (16) d_ru_setCell_17 rfl rfl ?_
    refine Ex_iload_n d_ru_setCell_18 rfl ?_
    refine Ex_iconst d_ru_setCell_19 ic_4 ?_
    refine Ex_imulN (i) (4) d_ru_setCell_20 rfl rfl ?_
    refine Ex_iaddN (k * 16) (i * 4) d_ru_setCell_21 rfl rfl ?_
    refine Ex_iload_n d_ru_setCell_22 rfl ?_
    refine Ex_iaddN ((k * 16) + (i * 4)) (j) d_ru_setCell_23 rfl rfl ?_
    refine Ex_iload d_ru_setCell_24 rfl ?_
    refine Ex_iastoreN (a := ((k * 16) + (i * 4)) + j) d_ru_setCell_26 hx.2.1.2.2.2.2.2.1 rfl (by omega) (by decide) ?_
    refine Ex_return d_ru_setCell_27 rfl ?_
    exact ⟨rfl, rfl⟩
theorem ru_cellAt_s {S : mj_S} {h : mj_H} {R : SR} {Y : OW} {n : Nat} (hRO : RO n R) {r a b c d : Nat} (hr : r < R.1) (hx : RuC1 R Y h r a b c d) {k i j : Nat} (hk : k < 40) (hi : i < rR R r) (hj : j < rC R r) : Cl S ru_cellAt [.ref (a), .int (nI (k)), .int (nI (i)), .int (nI (j))] h (Pu (.int (eC (rB R r (k * 16 + i * 4 + j)))) h) := by
  show Ex S ru_cellAt 0 [some (.ref (a)), some (.int (nI (k))), some (.int (nI (i))), some (.int (nI (j)))] [] h _
  obtain ⟨hz1, hz2⟩ := hRO.2 r hr
  refine Ex_aload_n d_ru_cellAt_0 rfl ?_
  refine Ex_iload_n d_ru_cellAt_1 rfl ?_
  refine Ex_iload_n d_ru_cellAt_2 rfl ?_
  refine Ex_iload_n d_ru_cellAt_3 rfl ?_
  refine Ex_pV3 (v := .int (bI (true))) d_ru_cellAt_4 pk_ru_cellAt_43 hx.2.1.2.1 (ru_hasCell_s hRO hr hx hk hi hj) ?_
  refine Ex_if_eqB (true) 28 d_ru_cellAt_7 rfl rfl (fun hc7 => ?_) (fun hc7 => ?_)
  · cases hc7
  · refine Ex_aload_n d_ru_cellAt_10 rfl ?_
    refine Ex_getR d_ru_cellAt_11 pf_ru_13 rfl hx.2.1.2.1 (congrArg va_rf hx.2.1.2.2.1) ?_
    refine Ex_iload_n d_ru_cellAt_14 rfl ?_
    refine Ex_bipush d_ru_cellAt_15 bp_16 ?_
    refine Ex_imulN (k) (16) d_ru_cellAt_17 rfl rfl ?_
    refine Ex_iload_n d_ru_cellAt_18 rfl ?_
    refine Ex_iconst d_ru_cellAt_19 ic_4 ?_
    refine Ex_imulN (i) (4) d_ru_cellAt_20 rfl rfl ?_
    refine Ex_iaddN (k * 16) (i * 4) d_ru_cellAt_21 rfl rfl ?_
    refine Ex_iload_n d_ru_cellAt_22 rfl ?_
    refine Ex_iaddN ((k * 16) + (i * 4)) (j) d_ru_cellAt_23 rfl rfl ?_
    refine Ex_ialoadN (a := ((k * 16) + (i * 4)) + j) d_ru_cellAt_24 hx.2.1.2.2.2.2.2.1 rfl (by omega) (by decide) (hx.2.2.2.2 _ (by omega)) ?_
    refine Ex_goto 29 d_ru_cellAt_25 rfl ?_
    refine Ex_ireturn d_ru_cellAt_29 rfl ?_
    exact ⟨rfl, rfl⟩
theorem to_ruleOf_s {S : mj_S} {h : mj_H} (hs : HT h) {R : SR} {Y : OW} (hR : RuC R Y h) {n : Nat} (hRO : RO n R) {r a b c d : Nat} (hr : r < R.1) (hx : RuC1 R Y h r a b c d) : Cl S to_ruleOf [.ref 0, .int (nI (r))] h (Pu (.ref a) h) := by
  show Ex S to_ruleOf 0 [some (.ref 0), some (.int (nI (r)))] [] h _
  have h8 := hRO.1
  refine Ex_iload_n d_to_ruleOf_0 rfl ?_
  refine Ex_if_ltN (r) 21 d_to_ruleOf_1 rfl rfl (by omega) (fun hc1 => ?_) (fun hc1 => ?_)
  · exfalso; omega
  · refine Ex_iload_n d_to_ruleOf_4 rfl ?_
    refine Ex_aload_n d_to_ruleOf_5 rfl ?_
    refine Ex_getIE d_to_ruleOf_6 pf_to_263 rfl (t_0 hs) hR.1 ?_
    refine Ex_icmp_geN (r) (R.1) 21 d_to_ruleOf_9 rfl rfl rfl (by omega) (by omega) (fun hc9 => ?_) (fun hc9 => ?_)
    · exfalso; omega
    · refine Ex_aload_n d_to_ruleOf_12 rfl ?_
      refine Ex_getR d_to_ruleOf_13 pf_to_80 rfl (t_0 hs) (r_0_9 hs) ?_
      refine Ex_iload_n d_to_ruleOf_16 rfl ?_
      refine Ex_aaloadN (a := r) d_to_ruleOf_17 (t_36 hs) (by decide) rfl (by omega) (by decide) (congrArg va_rf hx.2.1.1) ?_
      refine Ex_goto 22 d_to_ruleOf_18 rfl ?_
      refine Ex_areturn d_to_ruleOf_22 rfl (Or.inl ⟨_, rfl⟩) ?_
      exact Pu_r
theorem to_ruleOf_n {S : mj_S} {h : mj_H} (hs : HT h) {R : SR} {Y : OW} (hR : RuC R Y h) {n : Nat} (hRO : RO n R) {z : Int} (hz : -2147483648 ≤ z ∧ z < 2147483648) (hn : ¬ (0 ≤ z ∧ z < R.1)) : Cl S to_ruleOf [.ref 0, .int (J (z))] h (Pu .null h) := by
  show Ex S to_ruleOf 0 [some (.ref 0), some (.int (J (z)))] [] h _
  have h8 := hRO.1
  refine Ex_iload_n d_to_ruleOf_0 rfl ?_
  refine Ex_if_ltZ (z) 21 d_to_ruleOf_1 rfl rfl (by omega) (fun hc1 => ?_) (fun hc1 => ?_)
  · refine Ex_aconst_null d_to_ruleOf_21 ?_
    refine Ex_areturn0 d_to_ruleOf_22 rfl (Or.inl ⟨_, rfl⟩) ?_
    exact ⟨rfl, rfl⟩
  · refine Ex_iload_n d_to_ruleOf_4 rfl ?_
    refine Ex_aload_n d_to_ruleOf_5 rfl ?_
    refine Ex_getIE d_to_ruleOf_6 pf_to_263 rfl (t_0 hs) hR.1 ?_
    refine Ex_icmp_geZ (z) (((R.1 : Nat) : Int)) 21 d_to_ruleOf_9 rfl rfl (nIJ _) (by omega) (by omega) (fun hc9 => ?_) (fun hc9 => ?_)
    · refine Ex_aconst_null d_to_ruleOf_21 ?_
      refine Ex_areturn0 d_to_ruleOf_22 rfl (Or.inl ⟨_, rfl⟩) ?_
      exact ⟨rfl, rfl⟩
    · exfalso; omega
theorem to_ruleOf_z {S : mj_S} {h : mj_H} (hs : HT h) {R : SR} {Y : OW} (hR : RuC R Y h) {n : Nat} (hRO : RO n R) {r : Int} {a b c d : Nat} (hr : 0 ≤ r ∧ r < R.1) (hx : RuC1 R Y h r.toNat a b c d) : Cl S to_ruleOf [.ref 0, .int (J r)] h (Pu (.ref a) h) := by
  rw [J_pos hr.1]
  exact to_ruleOf_s hs hR hRO (by omega) hx
def NCR (R' : SR) (Y : OW) (c s : Nat) (h h' : mj_H) : Prop := (∃ Y', OwE h Y Y' ∧ RuC R' Y' h') ∧ Gr c s h h'
def hRI (h : mj_H) (a : Nat) (x y : Int32) : mj_H := wI (wI (wR (mNew (wR (mNew (wR (mNew h 0 640) a 2 (some (mN h))) 1 40) a 3 (some (mN h + 1))) 1 40) a 4 (some (mN h + 2))) a 0 x) a 1 y
theorem hRI_s {h : mj_H} {a : Nat} {x y : Int32} (ht : mT h a = some (18, 5)) : mT (hRI h a x y) a = some (18, 5) ∧ mR (hRI h a x y) a 2 = some (mN h) ∧ mR (hRI h a x y) a 3 = some (mN h + 1) ∧ mR (hRI h a x y) a 4 = some (mN h + 2) ∧ mT (hRI h a x y) (mN h) = some (0, 640) ∧ mT (hRI h a x y) (mN h + 1) = some (1, 40) ∧ mT (hRI h a x y) (mN h + 2) = some (1, 40) ∧ mI (hRI h a x y) a 0 = x ∧ mI (hRI h a x y) a 1 = y ∧ mN (hRI h a x y) = mN h + 3 ∧ mZ (hRI h a x y) = mZ h + 720 := by
  have hl := mT_lt ht
  have h1 : mT (mNew h 0 640) a = some (18, 5) := mT_new_old ht
  have n1 : mN (mNew h 0 640) = mN h + 1 := mN_new _ _ _
  have n2 : mN (mNew (wR (mNew h 0 640) a 2 (some (mN h))) 1 40) = mN h + 2 := by rw [mN_new]; show mN (mNew h 0 640) + 1 = _; omega
  have t1 : mT (mNew h 0 640) (mN h) = some (0, 640) := mT_new_self _ _ _
  have t2 : mT (mNew (wR (mNew h 0 640) a 2 (some (mN h))) 1 40) (mN h + 1) = some (1, 40) := by
    have := mT_new_self (wR (mNew h 0 640) a 2 (some (mN h))) 1 40
    rw [show mN (wR (mNew h 0 640) a 2 (some (mN h))) = mN h + 1 from n1] at this
    exact this
  have t3 : mT (mNew (wR (mNew (wR (mNew h 0 640) a 2 (some (mN h))) 1 40) a 3 (some (mN h + 1))) 1 40) (mN h + 2) = some (1, 40) := by
    have := mT_new_self (wR (mNew (wR (mNew h 0 640) a 2 (some (mN h))) 1 40) a 3 (some (mN h + 1))) 1 40
    rw [show mN (wR (mNew (wR (mNew h 0 640) a 2 (some (mN h))) 1 40) a 3 (some (mN h + 1))) = mN h + 2 from n2] at this
    exact this
  have o : ∀ (g : mj_H) (t m k : Nat), a < mN g → mR (mNew g t m) a k = mR g a k := fun g t m k hg => by
    show va_up g.2.2.2 g.1.length (fun _ => none) a k = _
    unfold va_up
    rw [if_neg (by have : a < g.1.length := hg; omega)]
    rfl
  have r : ∀ (g : mj_H) (k j : Nat) (v : Option Nat), mR (wR g a k v) a j = if j = k then v else mR g a j := fun g k j v => by
    rw [mR_wR, if_pos rfl]
    rfl
  unfold hRI
  simp only [mR_wI]
  refine ⟨mT_new_old (show mT (wR _ _ _ _) a = _ from mT_new_old (show mT (wR _ _ _ _) a = _ from h1)), ?_, ?_, ?_, mT_new_old (show mT (wR _ _ _ _) _ = _ from mT_new_old (show mT (wR _ _ _ _) _ = _ from t1)), mT_new_old (show mT (wR _ _ _ _) _ = _ from t2), t3, ?_, mI_self _ _ _ _, ?_, ?_⟩
  · rw [r, if_neg (by decide), o _ _ _ _ (by show a < mN (mNew _ _ _); omega), r, if_neg (by decide), o _ _ _ _ (by show a < mN (mNew _ _ _); omega), r, if_pos rfl]
  · rw [r, if_neg (by decide), o _ _ _ _ (by show a < mN (mNew _ _ _); omega), r, if_pos rfl]
  · rw [r, if_pos rfl]
  · rw [mI_oth (Or.inr (by decide)), mI_self]
  · show mN (mNew _ _ _) = _
    rw [mN_new]
    show mN (mNew _ _ _) + 1 = _
    omega
  · show mZ (mNew _ _ _) = _
    rw [mZ_new]
    show mZ (mNew _ _ _) + 40 = _
    rw [mZ_new]
    show mZ (mNew _ _ _) + 40 + 40 = _
    rw [mZ_new]
theorem ru_init_s {S : mj_S} {h : mj_H} {a : Nat} {x y : Int32} (ht : mT h a = some (18, 5)) : Cl S ru_init [.ref a, .int x, .int y] h (fun r h' => r = none ∧ h' = wA (hRI h a x y) (mN h) (flF (mI (hRI h a x y) (mN h)) (-1) 640)) := by
  show Ex S ru_init 0 [some (.ref (a)), some (.int (x)), some (.int (y))] [] h _
  refine Ex_aload_n d_ru_init_0 rfl ?_
  refine Ex_objInit d_ru_init_1 pm_ru_5 pw_oi pw_oc rfl ⟨Nat.le_of_ble_eq_true rfl, Nat.le_of_ble_eq_true rfl⟩ ?_
  refine Ex_aload_n d_ru_init_4 rfl ?_
  refine Ex_sipush d_ru_init_5 sp_640 ?_
  refine Ex_newarrayN (a := 640) d_ru_init_8 (Or.inl ⟨rfl, rfl⟩) pw_ai rfl (by omega) ?_
  refine Ex_putR (x := (some ((mN h)))) d_ru_init_10 pf_ru_13 (Or.inr ⟨rfl, rfl, _, rfl⟩) rfl (mT_new_old ht) rfl ?_
  refine Ex_aload_n d_ru_init_13 rfl ?_
  refine Ex_bipush d_ru_init_14 bp_40 ?_
  refine Ex_newarrayN (a := 40) d_ru_init_16 (Or.inr (Or.inl ⟨rfl, rfl⟩)) pw_al rfl (by omega) ?_
  rw [show mN (wR (mNew h 0 640) a 2 (some (mN h))) = mN h + 1 from mN_new _ _ _]
  refine Ex_putR (x := (some ((mN h + 1)))) d_ru_init_18 pf_ru_17 (Or.inr ⟨rfl, rfl, _, rfl⟩) rfl (show mT (mNew (wR (mNew h 0 640) a 2 (some (mN h))) 1 40) a = some (18, 5) from mT_new_old (show mT (wR _ _ _ _) a = _ from mT_new_old ht)) rfl ?_
  refine Ex_aload_n d_ru_init_21 rfl ?_
  refine Ex_bipush d_ru_init_22 bp_40 ?_
  refine Ex_newarrayN (a := 40) d_ru_init_24 (Or.inr (Or.inl ⟨rfl, rfl⟩)) pw_al rfl (by omega) ?_
  rw [show mN (wR (mNew (wR (mNew h 0 640) a 2 (some (mN h))) 1 40) a 3 (some (mN h + 1))) = mN h + 2 by
    show mN (mNew _ _ _) = _
    rw [mN_new]
    show mN (mNew _ _ _) + 1 = _
    rw [mN_new]]
  refine Ex_putR (x := (some ((mN h + 2)))) d_ru_init_26 pf_ru_21 (Or.inr ⟨rfl, rfl, _, rfl⟩) rfl (show mT (mNew (wR (mNew (wR (mNew h 0 640) a 2 (some (mN h))) 1 40) a 3 (some (mN h + 1))) 1 40) a = some (18, 5) from mT_new_old (show mT (wR _ _ _ _) a = _ from mT_new_old (show mT (wR _ _ _ _) a = _ from mT_new_old ht))) rfl ?_
  refine Ex_aload_n d_ru_init_29 rfl ?_
  refine Ex_iload_n d_ru_init_30 rfl ?_
  refine Ex_putI d_ru_init_31 pf_ru_24 (Or.inr ⟨rfl, rfl, _, rfl⟩) (show mT (mNew (wR (mNew (wR (mNew h 0 640) a 2 (some (mN h))) 1 40) a 3 (some (mN h + 1))) 1 40) a = some (18, 5) from mT_new_old (show mT (wR _ _ _ _) a = _ from mT_new_old (show mT (wR _ _ _ _) a = _ from mT_new_old ht))) (Or.inl rfl) ?_
  refine Ex_aload_n d_ru_init_34 rfl ?_
  refine Ex_iload_n d_ru_init_35 rfl ?_
  refine Ex_putI d_ru_init_36 pf_ru_28 (Or.inr ⟨rfl, rfl, _, rfl⟩) (show mT (mNew (wR (mNew (wR (mNew h 0 640) a 2 (some (mN h))) 1 40) a 3 (some (mN h + 1))) 1 40) a = some (18, 5) from mT_new_old (show mT (wR _ _ _ _) a = _ from mT_new_old (show mT (wR _ _ _ _) a = _ from mT_new_old ht))) (Or.inl rfl) ?_
  obtain ⟨hq1, hq2, hq3, hq4, hq5, hq6, hq7, hq8, hq9, hq10, hq11⟩ := hRI_s (x := x) (y := y) ht
  show Ex S ru_init 39 [some (.ref (a)), some (.int (x)), some (.int (y))] [] (hRI h a x y) _
  refine Ex_aload_n d_ru_init_39 rfl ?_
  refine Ex_getR d_ru_init_40 pf_ru_13 rfl hq1 (congrArg va_rf hq2) ?_
  refine Ex_iconst d_ru_init_43 ic_m1 ?_
  refine Ex_cS2 d_ru_init_44 pk_ru_init_33 (jd_fillI_s (m := 640) hq5 (by omega)) ?_
  rintro rv hh ⟨rfl, rfl⟩
  show Ex S ru_init 47 [some (.ref (a)), some (.int (x)), some (.int (y))] [] (wA (hRI h a x y) (mN h) (flF (mI (hRI h a x y) (mN h)) (-1) 640)) _
  refine Ex_return d_ru_init_47 rfl ?_
  exact ⟨rfl, rfl⟩
def hNR (h : mj_H) (x y : Int32) : mj_H := wA (hRI (mNew h 18 5) (mN h) x y) (mN h + 1) (flF (mI (hRI (mNew h 18 5) (mN h) x y) (mN h + 1)) (-1) 640)
def yNR (Y : OW) (h : mj_H) (r : Nat) : OW := va_up (va_up (va_up (va_up Y (mN h) (3, r)) (mN h + 1) (4, r)) (mN h + 2) (5, r)) (mN h + 3) (6, r)
theorem yNR_s {h : mj_H} (hs : HT h) {Y : OW} {r : Nat} : OwE h Y (yNR Y h r) ∧ yNR Y h r (mN h) = (3, r) ∧ yNR Y h r (mN h + 1) = (4, r) ∧ yNR Y h r (mN h + 2) = (5, r) ∧ yNR Y h r (mN h + 3) = (6, r) := by
  refine ⟨fun a ha => ?_, ?_, ?_, ?_, ?_⟩
  · unfold yNR va_up
    rw [if_neg (by omega), if_neg (by omega), if_neg (by omega), if_neg (by omega)]
  · unfold yNR va_up
    rw [if_neg (by omega), if_neg (by omega), if_neg (by omega), if_pos rfl]
  · unfold yNR va_up
    rw [if_neg (by omega), if_neg (by omega), if_pos rfl]
  · unfold yNR va_up
    rw [if_neg (by omega), if_pos rfl]
  · unfold yNR va_up
    rw [if_pos rfl]
theorem hNR_s {h : mj_H} (hs : HT h) {x y : Int32} : HT (hNR h x y) ∧ Fr Wal h (hNR h x y) ∧ Gr 4 725 h (hNR h x y) ∧ (mT (hNR h x y) (mN h) = some (18, 5) ∧ mR (hNR h x y) (mN h) 2 = some (mN h + 1) ∧ mR (hNR h x y) (mN h) 3 = some (mN h + 2) ∧ mR (hNR h x y) (mN h) 4 = some (mN h + 3) ∧ mT (hNR h x y) (mN h + 1) = some (0, 640) ∧ mT (hNR h x y) (mN h + 2) = some (1, 40) ∧ mT (hNR h x y) (mN h + 3) = some (1, 40)) ∧ mI (hNR h x y) (mN h) 0 = x ∧ mI (hNR h x y) (mN h) 1 = y ∧ ∀ k, k < 640 → mI (hNR h x y) (mN h + 1) k = -1 := by
  have hn := HT_n hs
  obtain ⟨q1, q2, q3, q4, q5, q6, q7, q8, q9, q10, q11⟩ := hRI_s (h := mNew h 18 5) (a := mN h) (x := x) (y := y) (mT_new_self h 18 5)
  rw [mN_new] at q2 q3 q4 q5 q6 q7 q10
  rw [mZ_new] at q11
  have f0 : Fr Wal h (mNew h 18 5) := Fr.rf.nw ⟨rfl, rfl⟩ _ _
  have fz : Fr Wal h (hRI (mNew h 18 5) (mN h) x y) := by
    unfold hRI
    exact ((((((f0.nw ⟨rfl, rfl⟩ _ _).xR (Nat.le_refl _)).nw ⟨rfl, rfl⟩ _ _).xR (Nat.le_refl _)).nw ⟨rfl, rfl⟩ _ _).xR (Nat.le_refl _)).xI (Nat.le_refl _) |>.xI (Nat.le_refl _)
  have ff : Fr Wal h (hNR h x y) := fz.xA (by omega)
  have e : ∀ b k, b ≠ mN h + 1 → mI (hNR h x y) b k = mI (hRI (mNew h 18 5) (mN h) x y) b k := fun b k hb => by
    unfold hNR
    rw [mI_wA, if_neg hb]
  refine ⟨ff.ht hs (fun q hq z => ?_), ff, ⟨q10, ?_⟩, ⟨q1, q2, q3, q4, q5, q6, q7⟩, ?_, ?_, fun k hk => ?_⟩
  · have := st_lt q hq
    have : ∀ q ∈ statR, ¬ (q.1 = 0 ∧ q.2.1 = 1000000000) := by decide
    exact this q hq z
  · show mZ (hRI (mNew h 18 5) (mN h) x y) ≤ _
    omega
  · rw [e _ _ (by omega)]; exact q8
  · rw [e _ _ (by omega)]; exact q9
  · unfold hNR
    rw [mI_wA, if_pos rfl]
    exact flF_in hk
def Wr1 (q a k : Nat) : Prop := (a = 36 ∧ k = q) ∨ (a = 0 ∧ k = 10)
theorem Wal_R {Y : OW} : ∀ a k, WRuc Y a k → ¬ Wal a k := by
  intro a k
  unfold WRuc Wal
  omega
theorem to_rule_s {S : mj_S} {h : mj_H} (hs : HT h) {R : SR} {Y : OW} (hR : RuC R Y h) {n : Nat} (hRO : RO n R) {r c : Int} (hr : -2147483648 ≤ r ∧ r < 2147483648) (hc : -2147483648 ≤ c ∧ c < 2147483648) : Cl S to_rule [.ref 0, .int (J (r)), .int (J (c))] h (AnsN (okRu R r c) R.1 (NCR (addR R r.toNat c.toNat) Y 4 725 h) (WRuC Y) h) := by
  show Ex S to_rule 0 [some (.ref 0), some (.int (J (r))), some (.int (J (c)))] [] h _
  have h8 := hRO.1
  refine Ex_aload_n d_to_rule_0 rfl ?_
  refine Ex_getIE d_to_rule_1 pf_to_263 rfl (t_0 hs) hR.1 ?_
  refine Ex_bipush d_to_rule_4 bp_8 ?_
  refine Ex_icmp_geN (R.1) (8) 17 d_to_rule_6 rfl rfl rfl (by omega) (by omega) (fun hc6 => ?_) (fun hc6 => ?_)
  · refine Ex_iconst d_to_rule_17 ic_m1 ?_
    refine Ex_ireturn d_to_rule_18 rfl ?_
    exact Or.inl ⟨by unfold okRu; omega, rfl, rfl⟩
  · refine Ex_iload_n d_to_rule_9 rfl ?_
    refine Ex_iload_n d_to_rule_10 rfl ?_
    refine Ex_pS2 (v := .int (bI (decide (1 ≤ r ∧ r ≤ 4 ∧ 1 ≤ c ∧ c ≤ 4)))) d_to_rule_11 pk_to_rule_266 (ru_mayBe_s hr hc) ?_
    refine Ex_if_neB (decide (1 ≤ r ∧ r ≤ 4 ∧ 1 ≤ c ∧ c ≤ 4)) 19 d_to_rule_14 rfl rfl (fun hc14 => ?_) (fun hc14 => ?_)
    · rw [decide_eq_true_eq] at hc14
      refine Ex_aload_n d_to_rule_19 rfl ?_
      refine Ex_getR d_to_rule_20 pf_to_80 rfl (t_0 hs) (r_0_9 hs) ?_
      refine Ex_aload_n d_to_rule_23 rfl ?_
      refine Ex_getIE d_to_rule_24 pf_to_263 rfl (t_0 hs) hR.1 ?_
      refine Ex_new (ci := 8) d_to_rule_27 rfl pc_to_78 ?_
      have hs1 : HT (mNew h 18 5) := HT_new hs _ _
      refine Ex_dup rfl d_to_rule_30 ?_
      refine Ex_iload_n d_to_rule_31 rfl ?_
      refine Ex_iload_n d_to_rule_32 rfl ?_
      refine Ex_cI2 d_to_rule_33 pk_to_rule_267 (ru_init_s (mT_new_self h 18 5)) ?_
      rintro rv hh ⟨rfl, rfl⟩
      rw [mN_new h 18 5]
      obtain ⟨hsQ, f2, g2, ⟨hq1, hq2, hq3, hq4, hq5, hq6, hq7⟩, hq8, hq9, hq10⟩ := hNR_s hs (x := J r) (y := J c)
      show Ex S to_rule 36 [some (.ref 0), some (.int (J (r))), some (.int (J (c)))] [.ref ((mN h)), .int (nI (R.1)), .ref 36] (hNR h (J r) (J c)) _
      refine Ex_aastoreN (a := R.1) (ci := 8) d_to_rule_36 (t_36 hsQ) (by decide) hq1 (by decide) rfl (by omega) (by decide) ?_
      have hs2 : HT (wR (hNR h (J r) (J c)) 36 (R.1) (some ((mN h)))) := HT_wR hsQ (by omega)
      refine Ex_aload_n d_to_rule_37 rfl ?_
      refine Ex_dup rfl d_to_rule_38 ?_
      refine Ex_getIE d_to_rule_39 pf_to_263 rfl (t_0 hs2) (show mI (wR (hNR h (J r) (J c)) 36 R.1 (some (mN h))) 0 10 = nI R.1 by rw [mI_wR, f2.I (by have := HT_n hs; omega) (by unfold Wal; omega)]; exact hR.1) ?_
      refine Ex_iconst d_to_rule_42 ic_1 ?_
      refine Ex_iaddN (R.1) (1) d_to_rule_43 rfl rfl ?_
      refine Ex_putI d_to_rule_44 pf_to_263 (Or.inl rfl) (t_0 hs2) (Or.inl rfl) ?_
      refine Ex_aload_n d_to_rule_47 rfl ?_
      refine Ex_getIE d_to_rule_48 pf_to_263 rfl (t_0 hs2) (mI_self _ _ _ _) ?_
      refine Ex_iconst d_to_rule_51 ic_1 ?_
      refine Ex_isubN (R.1 + 1) (1) d_to_rule_52 rfl rfl (by omega) ?_
      refine Ex_ireturn d_to_rule_53 rfl ?_
      have hn74 := HT_n hs
      obtain ⟨oY, hY1, hY2, hY3, hY4⟩ := yNR_s hs (Y := Y) (r := R.1)
      have f3 : Fr (fun a k => a = 36 ∨ (a = 0 ∧ k = 10)) (hNR h (J r) (J c)) (wI (wR (hNR h (J r) (J c)) 36 R.1 (some (mN h))) 0 10 (nI (R.1 + 1))) := Fr.sI (Fr.sR Fr.rf (Or.inl rfl)) (Or.inr ⟨rfl, rfl⟩)
      have f3' : ∀ x q : Nat, q ≠ R.1 → Fr (Wr1 R.1) (hNR h (J r) (J c)) (wI (wR (hNR h (J r) (J c)) 36 R.1 (some (mN h))) 0 10 (nI (R.1 + 1))) := fun _ _ _ => Fr.sI (Fr.sR Fr.rf (Or.inl ⟨rfl, rfl⟩)) (Or.inr ⟨rfl, rfl⟩)
      refine Or.inr ⟨⟨by omega, by omega, by omega, by omega, by omega⟩, by rw [Nat.add_sub_cancel], ⟨⟨_, oY, mI_self _ _ _ _, fun q hq => ?_⟩, g2.tr (Gr.of f3 (by omega))⟩, ?_⟩
      · have hq : q < R.1 + 1 := hq
        by_cases hq1 : q = R.1
        · subst hq1
          have k1 : ∀ x k, mN h ≤ x → mR (wI (wR (hNR h (J r) (J c)) 36 R.1 (some (mN h))) 0 10 (nI (R.1 + 1))) x k = mR (hNR h (J r) (J c)) x k := fun x k hx => by
            show mR (wR _ _ _ _) x k = _
            rw [mR_wR, if_neg (by omega)]
          have k2 : ∀ x k, mN h ≤ x → mI (wI (wR (hNR h (J r) (J c)) 36 R.1 (some (mN h))) 0 10 (nI (R.1 + 1))) x k = mI (hNR h (J r) (J c)) x k := fun x k hx => by
            rw [mI_oth (Or.inl (by omega)), mI_wR]
          refine ⟨mN h, mN h + 1, mN h + 2, mN h + 3, ⟨⟨by omega, hY1⟩, ⟨by omega, hY2⟩, ⟨by omega, hY3⟩, by omega, hY4⟩, ⟨?_, hq1, ?_, ?_, ?_, hq5, hq6, hq7⟩, ?_, ?_, fun k hk => ?_⟩
          · show mR (wR _ _ _ _) 36 R.1 = _
            rw [mR_wR, if_pos rfl]
            unfold va_up
            rw [if_pos rfl]
          · rw [k1 _ _ (by omega)]; exact hq2
          · rw [k1 _ _ (by omega)]; exact hq3
          · rw [k1 _ _ (by omega)]; exact hq4
          · rw [k2 _ _ (by omega), hq8, J_pos (by omega)]
            show _ = nI (va_up (rR R) R.1 r.toNat R.1)
            unfold va_up
            rw [if_pos rfl]
          · rw [k2 _ _ (by omega), hq9, J_pos (by omega)]
            show _ = nI (va_up (rC R) R.1 c.toNat R.1)
            unfold va_up
            rw [if_pos rfl]
          · rw [k2 _ _ (by omega), hq10 k hk]
            show _ = eC (va_up (rB R) R.1 (fun _ => none) R.1 k)
            unfold va_up
            rw [if_pos rfl]
            rfl
        · obtain ⟨a, b, c0, d, z⟩ := hR.2 q (by omega)
          have z2 := RuC1_fr hs f2 (by unfold Wal; omega) (fun k => by have := z.1.1.1; unfold Wal; omega) (fun k => by have := z.1.2.1.1; unfold Wal; omega) oY z
          have z3 := RuC1_fr (W := Wr1 R.1) (r := q) (a := a) (b := b) (Y := yNR Y h R.1) (Y' := yNR Y h R.1) hsQ (f3' R.1 q hq1) (by unfold Wr1; omega) (fun k => by have := z.1.1.1; unfold Wr1; omega) (fun k => by have := z.1.2.1.1; unfold Wr1; omega) OwE.rf z2
          refine ⟨a, b, c0, d, z3.1, z3.2.1, ?_, ?_, fun k hk => ?_⟩
          · rw [z3.2.2.1]; show _ = nI (va_up (rR R) R.1 r.toNat q); unfold va_up; rw [if_neg hq1]
          · rw [z3.2.2.2.1]; show _ = nI (va_up (rC R) R.1 c.toNat q); unfold va_up; rw [if_neg hq1]
          · rw [z3.2.2.2.2 k hk]; show _ = eC (va_up (rB R) R.1 (fun _ => none) q k); unfold va_up; rw [if_neg hq1]
      · refine (f2.mono (fun a k z => Or.inr (Or.inr (Or.inr z)))).tr (f3.mono (fun a k z => ?_))
        rcases z with rfl | ⟨rfl, rfl⟩
        · exact Or.inr (Or.inl rfl)
        · exact Or.inl ⟨rfl, rfl⟩
    · rw [decide_eq_false_iff_not] at hc14
      refine Ex_iconst d_to_rule_17 ic_m1 ?_
      refine Ex_ireturn d_to_rule_18 rfl ?_
      exact Or.inl ⟨by unfold okRu; omega, rfl, rfl⟩
theorem RuC_set {R : SR} {Y : OW} {h : mj_H} (hs : HT h) (hR : RuC R Y h) {r a b c d t : Nat} (ht : t < 640) (x : Tl) (hr : r < R.1) (hx : RuC1 R Y h r a b c d) {u : Nat} (hu : u = t := by omega) : RuC (setR R r t x) Y (wI h b u (eC x)) ∧ Fr (WRuC Y) h (wI h b u (eC x)) := by
  subst hu
  obtain ⟨⟨⟨a1, a2⟩, ⟨a3, a4⟩, ⟨a5, a6⟩, a7, a8⟩, ⟨b1, b2, b3, b4, b5, b6, b7, b8⟩, c1, c2, c3⟩ := id hx
  refine ⟨⟨by rw [mI_oth (Or.inl (by omega))]; exact hR.1, fun q hq => ?_⟩, Fr.sI Fr.rf (Or.inr (Or.inr (Or.inl ⟨a3, by rw [a4]; show 3 ≤ 4 ∧ 4 ≤ 6; decide⟩)))⟩
  by_cases hqr : q = r
  · subst hqr
    have hab : a ≠ b := fun z => by rw [z, a4] at a2; cases a2
    refine ⟨a, b, c, d, hx.1, hx.2.1, by rw [mI_oth (Or.inl hab)]; exact c1, by rw [mI_oth (Or.inl hab)]; exact c2, fun k hk => ?_⟩
    show _ = eC (va_up (rB R) q (va_up (rB R q) u x) q k)
    unfold va_up
    rw [if_pos rfl]
    show _ = eC (if k = u then x else rB R q k)
    by_cases hku : k = u
    · subst hku
      rw [if_pos rfl, mI_self]
    · rw [if_neg hku, mI_oth (Or.inr hku)]
      exact c3 k hk
  · obtain ⟨a', b', c', d', z⟩ := hR.2 q hq
    have e1 : a' ≠ b := fun w => by have := z.1.1.2; rw [w, a4] at this; cases this
    have e2 : b' ≠ b := fun w => by have := z.1.2.1.2; rw [w, a4] at this; cases this; exact hqr rfl
    refine ⟨a', b', c', d', z.1, z.2.1, by rw [mI_oth (Or.inl e1)]; exact z.2.2.1, by rw [mI_oth (Or.inl e1)]; exact z.2.2.2.1, fun k hk => ?_⟩
    rw [mI_oth (Or.inl e2), z.2.2.2.2 k hk]
    show _ = eC (va_up (rB R) r (va_up (rB R r) u x) q k)
    unfold va_up
    rw [if_neg hqr]
theorem to_becomes_s {S : mj_S} {h : mj_H} (hs : HT h) {K : SK} (hK : KC K h) (hO : KO K) {R : SR} {Y : OW} (hR : RuC R Y h) (hRO : RO K.1 R) {r k i j o m : Int} (hr : -2147483648 ≤ r ∧ r < 2147483648) (hk : -2147483648 ≤ k ∧ k < 2147483648) (hi : -2147483648 ≤ i ∧ i < 2147483648) (hj : -2147483648 ≤ j ∧ j < 2147483648) (ho : -2147483648 ≤ o ∧ o < 2147483648) (hm : -2147483648 ≤ m ∧ m < 2147483648) : Cl S to_becomes [.ref 0, .int (J r), .int (J k), .int (J i), .int (J j), .int (J o), .int (J m)] h (Ans (okBe K R r k i j o m) (RuC R Y) (RuC (beR K R r k i j o m) Y) (WRuC Y) h) := by
  show Ex S to_becomes 0 [some (.ref 0), some (.int (J (r))), some (.int (J (k))), some (.int (J (i))), some (.int (J (j))), some (.int (J (o))), some (.int (J (m))), none] [] h _
  have h8 := hRO.1
  have hk40 := hO.1
  by_cases hrr : 0 ≤ r ∧ r < R.1
  · obtain ⟨a, b, c, d, hx⟩ := hR.2 r.toNat (by omega)
    obtain ⟨hz1, hz2⟩ := hRO.2 r.toNat (by omega)
    refine Ex_aload_n d_to_becomes_0 rfl ?_
    refine Ex_iload_n d_to_becomes_1 rfl ?_
    refine Ex_pV1 (v := .ref (a)) d_to_becomes_2 pk_to_becomes_269 (t_0 hs) (to_ruleOf_z hs hR hRO hrr hx) ?_
    refine Ex_astore [some (.ref 0), some (.int (J (r))), some (.int (J (k))), some (.int (J (i))), some (.int (J (j))), some (.int (J (o))), some (.int (J (m))), some (.ref (a))] d_to_becomes_5 (Nat.le_of_ble_eq_true rfl) rfl ?_
    refine Ex_aload d_to_becomes_7 rfl ?_
    refine Ex_ifnull d_to_becomes_9 ?_
    refine Ex_aload_n d_to_becomes_12 rfl ?_
    refine Ex_getR d_to_becomes_13 pf_to_20 rfl (t_0 hs) (r_0_0 hs) ?_
    refine Ex_iload_n d_to_becomes_16 rfl ?_
    refine Ex_pV1 (v := .int (bI (decide (0 ≤ k ∧ k < K.1)))) d_to_becomes_17 pk_to_becomes_110 (t_1 hs) (ki_has_s hs hK hO hk) ?_
    refine Ex_if_eqB (decide (0 ≤ k ∧ k < K.1)) 34 d_to_becomes_20 rfl rfl (fun hc20 => ?_) (fun hc20 => ?_)
    · rw [decide_eq_false_iff_not] at hc20
      refine Ex_iconst d_to_becomes_34 ic_0 ?_
      refine Ex_zreturn d_to_becomes_35 rfl (by decide) ?_
      exact Or.inl ⟨by unfold okBe; omega, rfl, rfl⟩
    · rw [decide_eq_true_eq] at hc20
      refine Ex_aload d_to_becomes_23 rfl ?_
      refine Ex_iload_n d_to_becomes_25 rfl ?_
      refine Ex_iload d_to_becomes_26 rfl ?_
      refine Ex_pV2 (v := .int (bI (decide (0 ≤ i ∧ i < rR R r.toNat ∧ 0 ≤ j ∧ j < rC R r.toNat)))) d_to_becomes_28 pk_to_becomes_273 hx.2.1.2.1 (ru_hasPlace_s hRO (by omega) hx hi hj) ?_
      refine Ex_if_neB (decide (0 ≤ i ∧ i < rR R r.toNat ∧ 0 ≤ j ∧ j < rC R r.toNat)) 36 d_to_becomes_31 rfl rfl (fun hc31 => ?_) (fun hc31 => ?_)
      · rw [decide_eq_true_eq] at hc31
        refine Ex_iload d_to_becomes_36 rfl ?_
        refine Ex_iconst d_to_becomes_38 ic_m1 ?_
        refine Ex_icmp_eqZ (o) ((-1)) 55 d_to_becomes_39 rfl rfl (by decide) (by omega) (by omega) (fun hc39 => ?_) (fun hc39 => ?_)
        · refine Ex_aload d_to_becomes_55 rfl ?_
          refine Ex_iload_n d_to_becomes_57 rfl ?_
          refine Ex_iload_n d_to_becomes_58 rfl ?_
          refine Ex_iload d_to_becomes_59 rfl ?_
          refine Ex_iload d_to_becomes_61 rfl ?_
          refine Ex_iconst d_to_becomes_63 ic_m1 ?_
          refine Ex_icmp_neZ (o) ((-1)) 71 d_to_becomes_64 rfl rfl (by decide) (by omega) (by omega) (fun hc64 => ?_) (fun hc64 => ?_)
          · refine Ex_aload_n d_to_becomes_71 rfl ?_
            refine Ex_getR d_to_becomes_72 pf_to_20 rfl (t_0 hs) (r_0_0 hs) ?_
            refine Ex_iload d_to_becomes_75 rfl ?_
            refine Ex_iload d_to_becomes_77 rfl ?_
            refine Ex_pV2 (v := .int (eC (some (o.toNat, kLie K o.toNat m.toNat, 0)))) d_to_becomes_79 pk_to_becomes_183 (t_1 hs) (show Cl S ki_cellOf [.ref 1, .int (J o), .int (J m)] h _ by rw [J_pos (show 0 ≤ o by omega), J_pos (show 0 ≤ m by omega)]; exact ki_cellOf_s hs hK hO (by omega) (by omega)) ?_
            refine Ex_cV4 d_to_becomes_82 pk_to_becomes_276 hx.2.1.2.1 (show Cl S ru_setCell [.ref a, .int (J k), .int (J i), .int (J j), .int (eC (some (o.toNat, kLie K o.toNat m.toNat, 0)))] h (fun rv h1 => rv = none ∧ h1 = wI h b (k.toNat * 16 + i.toNat * 4 + j.toNat) (eC (some (o.toNat, kLie K o.toNat m.toNat, 0)))) by rw [J_pos (show 0 ≤ k by omega), J_pos (show 0 ≤ i by omega), J_pos (show 0 ≤ j by omega)]; exact ru_setCell_s hRO (show r.toNat < R.1 by omega) hx (by omega) (by omega) (by omega) _) ?_
            rintro rv hh ⟨rfl, rfl⟩
            show Ex S to_becomes 85 [some (.ref 0), some (.int (J (r))), some (.int (J (k))), some (.int (J (i))), some (.int (J (j))), some (.int (J (o))), some (.int (J (m))), some (.ref (a))] [] (wI h b (k.toNat * 16 + i.toNat * 4 + j.toNat) (eC (some (o.toNat, kLie K o.toNat m.toNat, 0)))) _
            refine Ex_iconst d_to_becomes_85 ic_1 ?_
            refine Ex_zreturn d_to_becomes_86 rfl (by decide) ?_
            have z := RuC_set hs hR (t := 16 * k.toNat + 4 * i.toNat + j.toNat) (by omega) (some (o.toNat, kLie K o.toNat m.toNat, 0)) (show r.toNat < R.1 by omega) hx (u := k.toNat * 16 + i.toNat * 4 + j.toNat)
            refine Or.inr ⟨⟨by omega, by omega, by omega, by omega, by omega, by omega, by omega, by omega, by omega⟩, rfl, ?_, z.2⟩
            unfold beR putC
            rw [if_neg (by omega)]
            exact z.1
          · refine Ex_iconst d_to_becomes_67 ic_m1 ?_
            refine Ex_goto 82 d_to_becomes_68 rfl ?_
            refine Ex_cV4 d_to_becomes_82 pk_to_becomes_276 hx.2.1.2.1 (show Cl S ru_setCell [.ref a, .int (J k), .int (J i), .int (J j), .int (-1 : Int32)] h (fun rv h1 => rv = none ∧ h1 = wI h b (k.toNat * 16 + i.toNat * 4 + j.toNat) (-1 : Int32)) by rw [J_pos (show 0 ≤ k by omega), J_pos (show 0 ≤ i by omega), J_pos (show 0 ≤ j by omega)]; exact ru_setCell_s hRO (show r.toNat < R.1 by omega) hx (by omega) (by omega) (by omega) _) ?_
            rintro rv hh ⟨rfl, rfl⟩
            show Ex S to_becomes 85 [some (.ref 0), some (.int (J (r))), some (.int (J (k))), some (.int (J (i))), some (.int (J (j))), some (.int (J (o))), some (.int (J (m))), some (.ref (a))] [] (wI h b (k.toNat * 16 + i.toNat * 4 + j.toNat) (-1 : Int32)) _
            refine Ex_iconst d_to_becomes_85 ic_1 ?_
            refine Ex_zreturn d_to_becomes_86 rfl (by decide) ?_
            have z := RuC_set hs hR (t := 16 * k.toNat + 4 * i.toNat + j.toNat) (by omega) none (show r.toNat < R.1 by omega) hx (u := k.toNat * 16 + i.toNat * 4 + j.toNat)
            refine Or.inr ⟨⟨by omega, by omega, by omega, by omega, by omega, by omega, by omega, by omega, by omega⟩, rfl, ?_, z.2⟩
            unfold beR putC
            rw [if_pos (by omega)]
            exact z.1
        · refine Ex_aload_n d_to_becomes_42 rfl ?_
          refine Ex_iload d_to_becomes_43 rfl ?_
          refine Ex_iload d_to_becomes_45 rfl ?_
          refine Ex_pV2 (v := .int (bI (decide (0 ≤ o ∧ o < K.1 ∧ 0 ≤ m ∧ m < 8)))) d_to_becomes_47 pk_to_becomes_180 (t_0 hs) (to_isKindInMove_s hs hK hO ho hm) ?_
          refine Ex_if_neB (decide (0 ≤ o ∧ o < K.1 ∧ 0 ≤ m ∧ m < 8)) 55 d_to_becomes_50 rfl rfl (fun hc50 => ?_) (fun hc50 => ?_)
          · rw [decide_eq_true_eq] at hc50
            refine Ex_aload d_to_becomes_55 rfl ?_
            refine Ex_iload_n d_to_becomes_57 rfl ?_
            refine Ex_iload_n d_to_becomes_58 rfl ?_
            refine Ex_iload d_to_becomes_59 rfl ?_
            refine Ex_iload d_to_becomes_61 rfl ?_
            refine Ex_iconst d_to_becomes_63 ic_m1 ?_
            refine Ex_icmp_neZ (o) ((-1)) 71 d_to_becomes_64 rfl rfl (by decide) (by omega) (by omega) (fun hc64 => ?_) (fun hc64 => ?_)
            · refine Ex_aload_n d_to_becomes_71 rfl ?_
              refine Ex_getR d_to_becomes_72 pf_to_20 rfl (t_0 hs) (r_0_0 hs) ?_
              refine Ex_iload d_to_becomes_75 rfl ?_
              refine Ex_iload d_to_becomes_77 rfl ?_
              refine Ex_pV2 (v := .int (eC (some (o.toNat, kLie K o.toNat m.toNat, 0)))) d_to_becomes_79 pk_to_becomes_183 (t_1 hs) (show Cl S ki_cellOf [.ref 1, .int (J o), .int (J m)] h _ by rw [J_pos (show 0 ≤ o by omega), J_pos (show 0 ≤ m by omega)]; exact ki_cellOf_s hs hK hO (by omega) (by omega)) ?_
              refine Ex_cV4 d_to_becomes_82 pk_to_becomes_276 hx.2.1.2.1 (show Cl S ru_setCell [.ref a, .int (J k), .int (J i), .int (J j), .int (eC (some (o.toNat, kLie K o.toNat m.toNat, 0)))] h (fun rv h1 => rv = none ∧ h1 = wI h b (k.toNat * 16 + i.toNat * 4 + j.toNat) (eC (some (o.toNat, kLie K o.toNat m.toNat, 0)))) by rw [J_pos (show 0 ≤ k by omega), J_pos (show 0 ≤ i by omega), J_pos (show 0 ≤ j by omega)]; exact ru_setCell_s hRO (show r.toNat < R.1 by omega) hx (by omega) (by omega) (by omega) _) ?_
              rintro rv hh ⟨rfl, rfl⟩
              show Ex S to_becomes 85 [some (.ref 0), some (.int (J (r))), some (.int (J (k))), some (.int (J (i))), some (.int (J (j))), some (.int (J (o))), some (.int (J (m))), some (.ref (a))] [] (wI h b (k.toNat * 16 + i.toNat * 4 + j.toNat) (eC (some (o.toNat, kLie K o.toNat m.toNat, 0)))) _
              refine Ex_iconst d_to_becomes_85 ic_1 ?_
              refine Ex_zreturn d_to_becomes_86 rfl (by decide) ?_
              have z := RuC_set hs hR (t := 16 * k.toNat + 4 * i.toNat + j.toNat) (by omega) (some (o.toNat, kLie K o.toNat m.toNat, 0)) (show r.toNat < R.1 by omega) hx (u := k.toNat * 16 + i.toNat * 4 + j.toNat)
              refine Or.inr ⟨⟨by omega, by omega, by omega, by omega, by omega, by omega, by omega, by omega, by omega⟩, rfl, ?_, z.2⟩
              unfold beR putC
              rw [if_neg (by omega)]
              exact z.1
            · refine Ex_iconst d_to_becomes_67 ic_m1 ?_
              refine Ex_goto 82 d_to_becomes_68 rfl ?_
              refine Ex_cV4 d_to_becomes_82 pk_to_becomes_276 hx.2.1.2.1 (show Cl S ru_setCell [.ref a, .int (J k), .int (J i), .int (J j), .int (-1 : Int32)] h (fun rv h1 => rv = none ∧ h1 = wI h b (k.toNat * 16 + i.toNat * 4 + j.toNat) (-1 : Int32)) by rw [J_pos (show 0 ≤ k by omega), J_pos (show 0 ≤ i by omega), J_pos (show 0 ≤ j by omega)]; exact ru_setCell_s hRO (show r.toNat < R.1 by omega) hx (by omega) (by omega) (by omega) _) ?_
              rintro rv hh ⟨rfl, rfl⟩
              show Ex S to_becomes 85 [some (.ref 0), some (.int (J (r))), some (.int (J (k))), some (.int (J (i))), some (.int (J (j))), some (.int (J (o))), some (.int (J (m))), some (.ref (a))] [] (wI h b (k.toNat * 16 + i.toNat * 4 + j.toNat) (-1 : Int32)) _
              refine Ex_iconst d_to_becomes_85 ic_1 ?_
              refine Ex_zreturn d_to_becomes_86 rfl (by decide) ?_
              have z := RuC_set hs hR (t := 16 * k.toNat + 4 * i.toNat + j.toNat) (by omega) none (show r.toNat < R.1 by omega) hx (u := k.toNat * 16 + i.toNat * 4 + j.toNat)
              refine Or.inr ⟨⟨by omega, by omega, by omega, by omega, by omega, by omega, by omega, by omega, by omega⟩, rfl, ?_, z.2⟩
              unfold beR putC
              rw [if_pos (by omega)]
              exact z.1
          · rw [decide_eq_false_iff_not] at hc50
            refine Ex_iconst d_to_becomes_53 ic_0 ?_
            refine Ex_zreturn d_to_becomes_54 rfl (by decide) ?_
            exact Or.inl ⟨by unfold okBe; omega, rfl, rfl⟩
      · rw [decide_eq_false_iff_not] at hc31
        refine Ex_iconst d_to_becomes_34 ic_0 ?_
        refine Ex_zreturn d_to_becomes_35 rfl (by decide) ?_
        exact Or.inl ⟨by unfold okBe; omega, rfl, rfl⟩
  · refine Ex_aload_n d_to_becomes_0 rfl ?_
    refine Ex_iload_n d_to_becomes_1 rfl ?_
    refine Ex_pV1 (v := .null) d_to_becomes_2 pk_to_becomes_269 (t_0 hs) (to_ruleOf_n hs hR hRO hr hrr) ?_
    refine Ex_astore0 [some (.ref 0), some (.int (J (r))), some (.int (J (k))), some (.int (J (i))), some (.int (J (j))), some (.int (J (o))), some (.int (J (m))), some (.null)] d_to_becomes_5 (Nat.le_of_ble_eq_true rfl) rfl ?_
    refine Ex_aload0 d_to_becomes_7 rfl ?_
    refine Ex_ifnull0 34 d_to_becomes_9 rfl ?_
    refine Ex_iconst d_to_becomes_34 ic_0 ?_
    refine Ex_zreturn d_to_becomes_35 rfl (by decide) ?_
    exact Or.inl ⟨fun z => hrr ⟨z.1, z.2.1⟩, rfl, rfl⟩
