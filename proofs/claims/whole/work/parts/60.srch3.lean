/-! The reference: show, starts. -/
def Wsh (f a k : Nat) : Prop := a = 67 ∧ 64 * f ≤ k ∧ k < 64 * f + 64
theorem Wsh_sr {f : Nat} : ∀ a k, Wsh f a k → WSM f a k := by intro a k h; unfold Wsh at h; unfold WSM; omega
theorem oN_gt {p : Nat → Prop} {N n : Nat} {o : Nat → Nat} (hE : EnO p N n o) {j : Nat} (hj : j < n) : o j < oN N n o (j + 1) := by
  unfold oN
  split
  · rename_i hc; exact hE.2.1 j (j + 1) (by omega) hc
  · exact (hE.1 j hj).1
def shW (F : SF) (f : Nat) (L : Nat → Pl) (b : Nat) (h h1 : mj_H) : Prop := Fr (Wsh f) h h1 ∧ ∀ k, k < 64 → mI h1 67 (64 * f + k) = if k < b ∧ opF F f k then eP (L k) else mI h 67 (64 * f + k)
theorem shW_s {F : SF} {f : Nat} {L : Nat → Pl} {h h1 : mj_H} {n : Nat} {o : Nat → Nat} (hE : EnO (opF F f) 64 n o) {j : Nat} (hj : j < n) (hI : shW F f L (oN 64 n o j) h h1) : shW F f L (oN 64 n o (j + 1)) h (wI h1 67 (64 * f + o j) (eP (L (o j)))) := by
  obtain ⟨ho1, ho2⟩ := hE.1 j hj
  have hg := oN_gt hE hj
  have hoj : oN 64 n o j = o j := if_pos hj
  rw [hoj] at hI
  refine ⟨hI.1.sI (by unfold Wsh; omega), fun k hk => ?_⟩
  by_cases z : k = o j
  · subst z
    rw [mI_self, if_pos ⟨hg, ho2⟩]
  · rw [mI_oth (Or.inr (by omega)), hI.2 k hk]
    by_cases hop : opF F f k
    · by_cases hlt : k < o j
      · rw [if_pos ⟨hlt, hop⟩, if_pos ⟨by omega, hop⟩]
      · by_cases h2 : k < oN 64 n o (j + 1)
        · exact absurd hop (EnO_gap hE hj k (by omega) h2)
        · rw [if_neg (fun w => hlt w.1), if_neg (fun w => h2 w.1)]
    · rw [if_neg (fun w => hop w.2), if_neg (fun w => hop w.2)]
theorem shW_0 {F : SF} {f : Nat} {L : Nat → Pl} {h : mj_H} {n : Nat} {o : Nat → Nat} (hE : EnO (opF F f) 64 n o) : shW F f L (oN 64 n o 0) h h := ⟨Fr.rf, fun k hk => by rw [if_neg (fun w => EnO_gap0 hE k w.1 w.2)]⟩
def Wst (f a k : Nat) : Prop := (a = 67 ∧ 64 * f ≤ k ∧ k < 64 * f + 64) ∨ (69 ≤ a ∧ a ≤ 71) ∨ (a = 38 ∧ (k = 42 ∨ k = 43))
theorem Wst_sr {f : Nat} : ∀ a k, Wst f a k → WSM f a k := by intro a k h; unfold Wst at h; unfold WSM; omega
def rvS (K : SK) (F : SF) (f : Nat) (N : Nat) (h h1 : mj_H) : Prop := Fr (Wst f) h h1 ∧ mI h1 38 42 = nI f ∧ (∀ j, j < K.1 → mI h1 70 j = nI (fS F f j)) ∧ (∃ n o, EnO (opF F f) N n o ∧ mI h1 38 43 = nI n ∧ ∀ i, i < n → mI h1 71 i = nI (o i)) ∧ (∀ k, k < N → inF F f k → mI h1 69 k = 0 ∧ mI h1 67 (64 * f + k) = 0) ∧ ∀ k, k < 64 → ¬ inF F f k → mI h1 67 (64 * f + k) = mI h 67 (64 * f + k)
theorem rvS_n {K : SK} {F : SF} {f N : Nat} {h h1 : mj_H} (hI : rvS K F f N h h1) (hn : ¬ inF F f N) : rvS K F f (N + 1) h h1 := by
  obtain ⟨a1, a2, a3, ⟨n, o, a4, a5, a6⟩, a7, a8⟩ := hI
  refine ⟨a1, a2, a3, ⟨n, o, EnO_n a4 (fun z => hn z.1), a5, a6⟩, fun k hk hi => ?_, a8⟩
  by_cases z : k = N
  · subst z; exact absurd hi hn
  · exact a7 k (by omega) hi
theorem rvS_ns {K : SK} {F : SF} {f N : Nat} {h h1 : mj_H} (hI : rvS K F f N h h1) : ∀ d, (∀ k, N ≤ k → k < N + d → ¬ inF F f k) → rvS K F f (N + d) h h1
  | 0, _ => hI
  | d + 1, hn => rvS_n (rvS_ns hI d (fun k h1 h2 => hn k h1 (by omega))) (hn (N + d) (by omega) (by omega))
theorem rvS_g {K : SK} {F : SF} {f N : Nat} {h h1 : mj_H} (hI : rvS K F f N h h1) (hN : N < 64) (hi : inF F f N) (hn : ¬ fT F f N = none) : rvS K F f (N + 1) h (wI (wI h1 69 N 0) 67 (64 * f + N) 0) := by
  obtain ⟨a1, a2, a3, ⟨n, o, a4, a5, a6⟩, a7, a8⟩ := hI
  refine ⟨(a1.sI (Or.inr (Or.inl (by omega)))).sI (Or.inl (by omega)), ?_, fun j hj => ?_, ⟨n, o, EnO_n a4 (fun z => hn z.2), ?_, fun i hi => ?_⟩, fun k hk hi => ?_, fun k hk hni => ?_⟩
  · rw [mI_oth (Or.inl (by decide)), mI_oth (Or.inl (by decide))]; exact a2
  · rw [mI_oth (Or.inl (by decide)), mI_oth (Or.inl (by decide))]; exact a3 j hj
  · rw [mI_oth (Or.inl (by decide)), mI_oth (Or.inl (by decide))]; exact a5
  · rw [mI_oth (Or.inl (by decide)), mI_oth (Or.inl (by decide))]; exact a6 i hi
  · by_cases z : k = N
    · subst z
      rw [mI_self, mI_oth (Or.inl (by decide)), mI_self]
      exact ⟨rfl, rfl⟩
    · have := a7 k (by omega) hi
      refine ⟨?_, ?_⟩
      · rw [mI_oth (Or.inl (by decide)), mI_oth (Or.inr z)]; exact this.1
      · rw [mI_oth (Or.inr (by omega)), mI_oth (Or.inl (by decide))]; exact this.2
  · rw [mI_oth (Or.inr (fun z => hni (by rw [show k = N by omega]; exact hi))), mI_oth (Or.inl (by decide))]
    exact a8 k hk hni
theorem rvS_o {K : SK} {F : SF} {f N : Nat} {h h1 : mj_H} (hI : rvS K F f N h h1) (hN : N < 64) (hi : inF F f N) (ht : fT F f N = none) {n : Nat} (hn : mI h1 38 43 = nI n) (hn6 : n ≤ 64) : rvS K F f (N + 1) h (wI (wI (wI (wI h1 69 N 0) 67 (64 * f + N) 0) 71 n (nI N)) 38 43 (nI (n + 1))) := by
  obtain ⟨a1, a2, a3, ⟨n', o, a4, a5, a6⟩, a7, a8⟩ := hI
  obtain rfl : n' = n := nI_inj32 (by have := EnO_le a4; omega) (by omega) (a5.symm.trans hn)
  refine ⟨(((a1.sI (Or.inr (Or.inl (by omega)))).sI (Or.inl (by omega))).sI (Or.inr (Or.inl (by omega)))).sI (Or.inr (Or.inr (by omega))), ?_, fun j hj => ?_, ⟨n' + 1, _, EnO_s a4 ⟨hi, ht⟩, ?_, fun i hi => ?_⟩, fun k hk hi => ?_, fun k hk hni => ?_⟩
  · rw [mI_oth (Or.inr (by decide)), mI_oth (Or.inl (by decide)), mI_oth (Or.inl (by decide)), mI_oth (Or.inl (by decide))]; exact a2
  · rw [mI_oth (Or.inl (by decide)), mI_oth (Or.inl (by decide)), mI_oth (Or.inl (by decide)), mI_oth (Or.inl (by decide))]; exact a3 j hj
  · exact mI_self _ _ _ _
  · rw [mI_oth (Or.inl (by decide))]
    unfold va_up
    by_cases z : i = n'
    · rw [z, if_pos rfl, mI_self]
    · rw [if_neg z, mI_oth (Or.inr z), mI_oth (Or.inl (by decide)), mI_oth (Or.inl (by decide))]; exact a6 i (by omega)
  · by_cases z : k = N
    · subst z
      refine ⟨?_, ?_⟩
      · rw [mI_oth (Or.inl (by decide)), mI_oth (Or.inl (by decide)), mI_oth (Or.inl (by decide)), mI_self]
      · rw [mI_oth (Or.inl (by decide)), mI_oth (Or.inl (by decide)), mI_self]
    · have := a7 k (by omega) hi
      refine ⟨?_, ?_⟩
      · rw [mI_oth (Or.inl (by decide)), mI_oth (Or.inl (by decide)), mI_oth (Or.inl (by decide)), mI_oth (Or.inr z)]; exact this.1
      · rw [mI_oth (Or.inl (by decide)), mI_oth (Or.inl (by decide)), mI_oth (Or.inr (by omega)), mI_oth (Or.inl (by decide))]; exact this.2
  · rw [mI_oth (Or.inl (by decide)), mI_oth (Or.inl (by decide)), mI_oth (Or.inr (fun z => hni (by rw [show k = N by omega]; exact hi))), mI_oth (Or.inl (by decide))]
    exact a8 k hk hni
theorem eT_le {n : Nat} {t : To} (hn : n ≤ 40) (h : okTo n t) (hl : eT t ≤ 0) : t = none ∨ t = some none := by
  match t, h with
  | none, _ => exact Or.inl rfl
  | some none, _ => exact Or.inr rfl
  | some (some (k, m)), h => exact absurd hl (Int32.not_le.mpr (eP_pos (by have := h.1; omega) h.2))
theorem eT_gt {n : Nat} {t : To} (hn : n ≤ 40) (h : okTo n t) (hl : ¬ eT t ≤ 0) : ∃ q, t = some (some q) := by
  match t, h with
  | none, _ => exact absurd (by decide) hl
  | some none, _ => exact absurd (by decide) hl
  | some (some q), h => exact ⟨q, rfl⟩
theorem eT_z {n : Nat} {t : To} (hn : n ≤ 40) (h : okTo n t) : eT t = 0 ↔ t = none := by
  match t, h with
  | none, _ => exact ⟨fun _ => rfl, fun _ => rfl⟩
  | some none, _ => exact ⟨fun z => absurd z (by decide), fun z => by cases z⟩
  | some (some q), h => exact ⟨fun z => absurd ((eP_z hn (show okP n (some q) from h)).mp z) (fun z => by cases z), fun z => by cases z⟩
theorem gd1_n {K : SK} {F : SF} {f k : Nat} (h : ¬ inF F f k) : gd1 K F f k = true := if_neg h
theorem gd1_t {K : SK} {F : SF} {f k : Nat} (h : fT F f k = none ∨ fT F f k = some none) : gd1 K F f k = true := by
  unfold gd1
  split
  · rcases h with h | h <;> rw [h]
  · rfl
theorem gd1_q {K : SK} {F : SF} {f k : Nat} (h : inF F f k) {q : Nat × Nat} (hq : fT F f k = some (some q)) : gd1 K F f k = mayB K F f (fun _ => none) k (some q) := by
  unfold gd1
  rw [if_pos h, hq]
theorem rm_show_L {S : mj_S} {Q : Option Value → mj_H → Prop} {h : mj_H} (hs : HT h) {K : SK} (hK : KM K h) (hO : KO K) {F : SF} (hFO : FO K.1 F) {f : Nat} (hf : f < F.1) (hF : FT1 F f h) {L : Nat → Pl} {l : Nat → Nat} (hM : SM K.1 F f L l h) {n : Nat} {o : Nat → Nat} (hQ : OM F f n o h)
    (kx : ∀ h1 : mj_H, shW F f L (oN 64 n o (n)) h h1 → Ex S rm_show 46 [some (.ref 38), some (.int (nI (n)))] [] h1 Q) : ∀ d k : Nat, k + d = n → ∀ h1 : mj_H, shW F f L (oN 64 n o (k)) h h1 → Ex S rm_show 2 [some (.ref 38), some (.int (nI (k)))] [] h1 Q := by
  have hn := HT_n hs
  have hk40 := hO.1
  have hf6 := hFO.1
  have hn64 := EnO_le hQ.1
  intro d
  induction d with
  | zero =>
    intro k hkk h1 hI
    obtain rfl : n = k := by omega
    have hs1 : HT h1 := (hI.1.mono Wsh_sr).ht hs (WSM_st f)
    refine Ex_iload_n d_rm_show_2 rfl ?_
    refine Ex_aload_n d_rm_show_3 rfl ?_
    refine Ex_getIE (y := (nI (n))) d_rm_show_4 pf_rm_307 rfl (t_38 hs1) (by rw [hI.1.I (by omega) (by unfold Wsh; omega)]; exact hQ.2.1) ?_
    refine Ex_icmp_geN (n) (n) 46 d_rm_show_7 rfl rfl rfl (by omega) (by omega) (fun hc7 => ?_) (fun hc7 => ?_)
    · exact kx h1 hI
    · exfalso; omega
  | succ d ih =>
    intro k hkk h1 hI
    have hs1 : HT h1 := (hI.1.mono Wsh_sr).ht hs (WSM_st f)
    obtain ⟨ho1, ho2⟩ := hQ.1.1 k (by omega)
    refine Ex_iload_n d_rm_show_2 rfl ?_
    refine Ex_aload_n d_rm_show_3 rfl ?_
    refine Ex_getIE (y := (nI (n))) d_rm_show_4 pf_rm_307 rfl (t_38 hs1) (by rw [hI.1.I (by omega) (by unfold Wsh; omega)]; exact hQ.2.1) ?_
    refine Ex_icmp_geN (k) (n) 46 d_rm_show_7 rfl rfl rfl (by omega) (by omega) (fun hc7 => ?_) (fun hc7 => ?_)
    · exfalso; omega
    · refine Ex_aload_n d_rm_show_10 rfl ?_
      refine Ex_getR (v := .ref 67) d_rm_show_11 pf_rm_97 rfl (t_38 hs1) (r_38_38 hs1) ?_
      refine Ex_bipush d_rm_show_14 bp_64 ?_
      refine Ex_aload_n d_rm_show_16 rfl ?_
      refine Ex_getIE (y := (nI (f))) d_rm_show_17 pf_rm_294 rfl (t_38 hs1) (by rw [hI.1.I (by omega) (by unfold Wsh; omega)]; exact hM.1) ?_
      refine Ex_imulN (64) (f) d_rm_show_20 rfl rfl ?_
      refine Ex_aload_n d_rm_show_21 rfl ?_
      refine Ex_getR (v := .ref 71) d_rm_show_22 pf_rm_109 rfl (t_38 hs1) (r_38_46 hs1) ?_
      refine Ex_iload_n d_rm_show_25 rfl ?_
      refine Ex_ialoadN (a := k) (y := (nI (o k))) d_rm_show_26 (t_71 hs1) rfl (by omega) (by decide) (by rw [hI.1.I (by omega) (by unfold Wsh; omega)]; exact hQ.2.2 k (by omega)) ?_
      refine Ex_iaddN (64 * f) (o k) d_rm_show_27 rfl rfl ?_
      refine Ex_aload_n d_rm_show_28 rfl ?_
      refine Ex_getR (v := .ref 69) d_rm_show_29 pf_rm_103 rfl (t_38 hs1) (r_38_44 hs1) ?_
      refine Ex_aload_n d_rm_show_32 rfl ?_
      refine Ex_getR (v := .ref 71) d_rm_show_33 pf_rm_109 rfl (t_38 hs1) (r_38_46 hs1) ?_
      refine Ex_iload_n d_rm_show_36 rfl ?_
      refine Ex_ialoadN (a := k) (y := (nI (o k))) d_rm_show_37 (t_71 hs1) rfl (by omega) (by decide) (by rw [hI.1.I (by omega) (by unfold Wsh; omega)]; exact hQ.2.2 k (by omega)) ?_
      refine Ex_ialoadN (a := o k) (y := (eP (L (o k)))) d_rm_show_38 (t_69 hs1) rfl (by omega) (by decide) (by rw [hI.1.I (by omega) (by unfold Wsh; omega)]; exact hM.2.1 _ ho1 ho2.1) ?_
      refine Ex_iastoreN (a := (64 * f) + (o k)) d_rm_show_39 (t_67 hs1) rfl (by omega) (by decide) ?_
      refine Ex_iincN (k) 1 [some (.ref 38), some (.int (nI (k + 1)))] d_rm_show_40 rfl rfl rfl rfl ?_
      refine Ex_goto 2 d_rm_show_43 rfl ?_
      exact ih (k + 1) (by omega) _ (shW_s hQ.1 (by omega) hI)
theorem rm_show_s {S : mj_S} {h : mj_H} (hs : HT h) {K : SK} (hK : KM K h) (hO : KO K) {F : SF} (hFO : FO K.1 F) {f : Nat} (hf : f < F.1) (hF : FT1 F f h) {L : Nat → Pl} {l : Nat → Nat} (hM : SM K.1 F f L l h) {n : Nat} {o : Nat → Nat} (hQ : OM F f n o h) : Cl S rm_show [.ref 38] h (fun r h' => r = none ∧ shW F f L 64 h h') := by
  show Ex S rm_show 0 [some (.ref 38), none] [] h _
  refine Ex_iconst d_rm_show_0 ic_0 ?_
  refine Ex_istore_n [some (.ref 38), some (.int (0))] d_rm_show_1 (Nat.le_of_ble_eq_true rfl) rfl ?_
  refine rm_show_L hs hK hO hFO hf hF hM hQ (fun h1 hI => ?_) n 0 (by omega) h (shW_0 hQ.1)
  refine Ex_return d_rm_show_46 rfl ?_
  rw [show oN 64 n o n = 64 from if_neg (by omega)] at hI
  exact ⟨rfl, hI⟩
def Wl1 (a k : Nat) : Prop := a = 70 ∨ (a = 38 ∧ (k = 42 ∨ k = 43))
theorem Wl1_sr {f : Nat} : ∀ a k, Wl1 a k → WSM f a k := by intro a k h; unfold Wl1 at h; unfold WSM; omega
theorem Wl1_st {f : Nat} : ∀ a k, Wl1 a k → Wst f a k := by intro a k h; unfold Wl1 at h; unfold Wst; omega
theorem rm_starts_L1 {S : mj_S} {Q : Option Value → mj_H → Prop} {h : mj_H} (hs : HT h) {K : SK} (hK : KM K h) (hO : KO K) {F : SF} (hFO : FO K.1 F) {f : Nat} (hf : f < F.1) (hF : FT1 F f h)
    (kx : ∀ h1 : mj_H, (Fr Wl1 h h1 ∧ mI h1 38 42 = nI f ∧ mI h1 38 43 = nI 0 ∧ ∀ j, j < K.1 → mI h1 70 j = nI (fS F f j)) → Ex S rm_starts 43 [some (.ref 38), some (.int (nI (f))), some (.int (nI (K.1))), none, none, none, none] [] h1 Q) : ∀ d k : Nat, k + d = K.1 → ∀ h1 : mj_H, (Fr Wl1 h h1 ∧ mI h1 38 42 = nI f ∧ mI h1 38 43 = nI 0 ∧ ∀ j, j < k → mI h1 70 j = nI (fS F f j)) → Ex S rm_starts 12 [some (.ref 38), some (.int (nI (f))), some (.int (nI (k))), none, none, none, none] [] h1 Q := by
  have hn := HT_n hs
  have hk40 := hO.1
  have hf6 := hFO.1
  have hsh := (hFO.2.2 f hf).1
  intro d
  induction d with
  | zero =>
    intro k hkk h1 hI
    obtain rfl : K.1 = k := by omega
    have hs1 : HT h1 := (hI.1.mono (Wl1_sr (f := f))).ht hs (WSM_st f)
    have hK1 := KM_sr hs (hI.1.mono (Wl1_sr (f := f))) hK
    have hF1 := FT1_sr hs (hI.1.mono (Wl1_sr (f := f))) hF
    refine Ex_iload_n d_rm_starts_12 rfl ?_
    refine Ex_aload_n d_rm_starts_13 rfl ?_
    refine Ex_getIE (y := (nI (K.1))) d_rm_starts_14 pf_rm_128 rfl (t_38 hs1) hK1.1 ?_
    refine Ex_icmp_geN (K.1) (K.1) 43 d_rm_starts_17 rfl rfl rfl (by omega) (by omega) (fun hc17 => ?_) (fun hc17 => ?_)
    · exact kx h1 hI
    · exfalso; omega
  | succ d ih =>
    intro k hkk h1 hI
    have hs1 : HT h1 := (hI.1.mono (Wl1_sr (f := f))).ht hs (WSM_st f)
    have hK1 := KM_sr hs (hI.1.mono (Wl1_sr (f := f))) hK
    have hF1 := FT1_sr hs (hI.1.mono (Wl1_sr (f := f))) hF
    refine Ex_iload_n d_rm_starts_12 rfl ?_
    refine Ex_aload_n d_rm_starts_13 rfl ?_
    refine Ex_getIE (y := (nI (K.1))) d_rm_starts_14 pf_rm_128 rfl (t_38 hs1) hK1.1 ?_
    refine Ex_icmp_geN (k) (K.1) 43 d_rm_starts_17 rfl rfl rfl (by omega) (by omega) (fun hc17 => ?_) (fun hc17 => ?_)
    · exfalso; omega
    · refine Ex_aload_n d_rm_starts_20 rfl ?_
      refine Ex_getR (v := .ref 70) d_rm_starts_21 pf_rm_106 rfl (t_38 hs1) (r_38_45 hs1) ?_
      refine Ex_iload_n d_rm_starts_24 rfl ?_
      refine Ex_aload_n d_rm_starts_25 rfl ?_
      refine Ex_getR (v := .ref 68) d_rm_starts_26 pf_rm_100 rfl (t_38 hs1) (r_38_39 hs1) ?_
      refine Ex_bipush d_rm_starts_29 bp_40 ?_
      refine Ex_iload_n d_rm_starts_31 rfl ?_
      refine Ex_imulN (40) (f) d_rm_starts_32 rfl rfl ?_
      refine Ex_iload_n d_rm_starts_33 rfl ?_
      refine Ex_iaddN (40 * f) (k) d_rm_starts_34 rfl rfl ?_
      refine Ex_ialoadN (a := (40 * f) + k) (y := (nI (fS F f k))) d_rm_starts_35 (t_68 hs1) rfl (by omega) (by decide) (hF1.2.2 k (by omega)) ?_
      refine Ex_iastoreN (a := k) d_rm_starts_36 (t_70 hs1) rfl (by omega) (by decide) ?_
      refine Ex_iincN (k) 1 [some (.ref 38), some (.int (nI (f))), some (.int (nI (k + 1))), none, none, none, none] d_rm_starts_37 rfl rfl rfl rfl ?_
      refine Ex_goto 12 d_rm_starts_40 rfl ?_
      refine ih (k + 1) (by omega) _ ⟨hI.1.sI (Or.inl rfl), ?_, ?_, fun j hj => ?_⟩
      · rw [mI_oth (Or.inl (by decide))]; exact hI.2.1
      · rw [mI_oth (Or.inl (by decide))]; exact hI.2.2.1
      · by_cases z : j = k
        · rw [z, mI_self]
        · rw [mI_oth (Or.inr z)]; exact hI.2.2.2 j (by omega)
theorem rm_starts_L2 {S : mj_S} {Q : Option Value → mj_H → Prop} {h : mj_H} (hs : HT h) {K : SK} (hK : KM K h) (hO : KO K) {F : SF} (hFO : FO K.1 F) {f : Nat} (hf : f < F.1) (hF : FT1 F f h) {i : Nat} (hi : i < fR F f)
    (kx : ∀ h1 : mj_H, rvS K F f (8 * i + fC F f) h h1 → Ex S rm_starts 147 [some (.ref 38), some (.int (nI (f))), some (.int (1)), some (.int (nI (i))), some (.int (nI (fC F f))), none, none] [] h1 Q) : ∀ d k : Nat, k + d = fC F f → ∀ h1 : mj_H, rvS K F f (8 * i + k) h h1 → Ex S rm_starts 60 [some (.ref 38), some (.int (nI (f))), some (.int (1)), some (.int (nI (i))), some (.int (nI (k))), none, none] [] h1 Q := by
  have hn := HT_n hs
  have hk40 := hO.1
  have hf6 := hFO.1
  have hsh := (hFO.2.2 f hf).1
  intro d
  induction d with
  | zero =>
    intro k hkk h1 hI
    obtain rfl : fC F f = k := by omega
    have hs1 : HT h1 := (hI.1.mono (Wst_sr (f := f))).ht hs (WSM_st f)
    have hK1 := KM_sr hs (hI.1.mono (Wst_sr (f := f))) hK
    have hF1 := FT1_sr hs (hI.1.mono (Wst_sr (f := f))) hF
    refine Ex_iload d_rm_starts_60 rfl ?_
    refine Ex_aload_n d_rm_starts_62 rfl ?_
    refine Ex_getR (v := .ref 65) d_rm_starts_63 pf_rm_91 rfl (t_38 hs1) (r_38_36 hs1) ?_
    refine Ex_iload_n d_rm_starts_66 rfl ?_
    refine Ex_ialoadN (a := f) (y := (nI (fC F f))) d_rm_starts_67 (t_65 hs1) rfl (by omega) (by decide) hF1.1.2 ?_
    refine Ex_icmp_geN (fC F f) (fC F f) 147 d_rm_starts_68 rfl rfl rfl (by omega) (by omega) (fun hc68 => ?_) (fun hc68 => ?_)
    · exact kx h1 hI
    · exfalso; omega
  | succ d ih =>
    intro k hkk h1 hI
    have hs1 : HT h1 := (hI.1.mono (Wst_sr (f := f))).ht hs (WSM_st f)
    have hK1 := KM_sr hs (hI.1.mono (Wst_sr (f := f))) hK
    have hF1 := FT1_sr hs (hI.1.mono (Wst_sr (f := f))) hF
    have hin : inF F f (8 * i + k) := by unfold inF; omega
    have hto := ((hFO.2.2 f hf).2.1 (8 * i + k) (by omega)).1
    obtain ⟨n, hn38, hn64⟩ : ∃ n, mI h1 38 43 = nI n ∧ n ≤ 8 * i + k := by obtain ⟨_, _, _, ⟨n, o, a4, a5, _⟩, _⟩ := hI; exact ⟨n, a5, EnO_le a4⟩
    refine Ex_iload d_rm_starts_60 rfl ?_
    refine Ex_aload_n d_rm_starts_62 rfl ?_
    refine Ex_getR (v := .ref 65) d_rm_starts_63 pf_rm_91 rfl (t_38 hs1) (r_38_36 hs1) ?_
    refine Ex_iload_n d_rm_starts_66 rfl ?_
    refine Ex_ialoadN (a := f) (y := (nI (fC F f))) d_rm_starts_67 (t_65 hs1) rfl (by omega) (by decide) hF1.1.2 ?_
    refine Ex_icmp_geN (k) (fC F f) 147 d_rm_starts_68 rfl rfl rfl (by omega) (by omega) (fun hc68 => ?_) (fun hc68 => ?_)
    · exfalso; omega
    · refine Ex_bipush d_rm_starts_71 bp_8 ?_
      refine Ex_iload_n d_rm_starts_73 rfl ?_
      refine Ex_imulN (8) (i) d_rm_starts_74 rfl rfl ?_
      refine Ex_iload d_rm_starts_75 rfl ?_
      refine Ex_iaddN (8 * i) (k) d_rm_starts_77 rfl rfl ?_
      refine Ex_istore [some (.ref 38), some (.int (nI (f))), some (.int (1)), some (.int (nI (i))), some (.int (nI (k))), some (.int (nI ((8 * i) + k))), none] d_rm_starts_78 (Nat.le_of_ble_eq_true rfl) rfl ?_
      refine Ex_aload_n d_rm_starts_80 rfl ?_
      refine Ex_getR (v := .ref 69) d_rm_starts_81 pf_rm_103 rfl (t_38 hs1) (r_38_44 hs1) ?_
      refine Ex_iload d_rm_starts_84 rfl ?_
      refine Ex_iconst d_rm_starts_86 ic_0 ?_
      refine Ex_iastoreN (a := (8 * i) + k) d_rm_starts_87 (t_69 hs1) rfl (by omega) (by decide) ?_
      refine Ex_aload_n d_rm_starts_88 rfl ?_
      refine Ex_getR (v := .ref 67) d_rm_starts_89 pf_rm_97 rfl (t_38 hs1) (r_38_38 hs1) ?_
      refine Ex_bipush d_rm_starts_92 bp_64 ?_
      refine Ex_iload_n d_rm_starts_94 rfl ?_
      refine Ex_imulN (64) (f) d_rm_starts_95 rfl rfl ?_
      refine Ex_iload d_rm_starts_96 rfl ?_
      refine Ex_iaddN (64 * f) ((8 * i) + k) d_rm_starts_98 rfl rfl ?_
      refine Ex_iconst d_rm_starts_99 ic_0 ?_
      refine Ex_iastoreN (a := (64 * f) + ((8 * i) + k)) d_rm_starts_100 (t_67 hs1) rfl (by omega) (by decide) ?_
      refine Ex_aload_n d_rm_starts_101 rfl ?_
      refine Ex_getR (v := .ref 66) d_rm_starts_102 pf_rm_94 rfl (t_38 hs1) (r_38_37 hs1) ?_
      refine Ex_bipush d_rm_starts_105 bp_64 ?_
      refine Ex_iload_n d_rm_starts_107 rfl ?_
      refine Ex_imulN (64) (f) d_rm_starts_108 rfl rfl ?_
      refine Ex_iload d_rm_starts_109 rfl ?_
      refine Ex_iaddN (64 * f) ((8 * i) + k) d_rm_starts_111 rfl rfl ?_
      refine Ex_ialoadN (a := (64 * f) + ((8 * i) + k)) (y := (eT (fT F f (8 * i + k)))) d_rm_starts_112 (t_66 hs1) rfl (by omega) (by decide) (by show mI (wI (wI h1 69 _ _) 67 _ _) 66 _ = _; rw [mI_oth (Or.inl (by decide)), mI_oth (Or.inl (by decide))]; exact hF1.2.1 _ (by omega)) ?_
      refine Ex_istore [some (.ref 38), some (.int (nI (f))), some (.int (1)), some (.int (nI (i))), some (.int (nI (k))), some (.int (nI ((8 * i) + k))), some (.int (eT (fT F f (8 * i + k))))] d_rm_starts_113 (Nat.le_of_ble_eq_true rfl) rfl ?_
      refine Ex_iload d_rm_starts_115 rfl ?_
      refine Ex_if_ne 141 d_rm_starts_117 rfl (fun hc117 => ?_) (fun hc117 => ?_)
      · refine Ex_iincN (k) 1 [some (.ref 38), some (.int (nI (f))), some (.int (1)), some (.int (nI (i))), some (.int (nI (k + 1))), some (.int (nI ((8 * i) + k))), some (.int (eT (fT F f (8 * i + k))))] d_rm_starts_141 rfl rfl rfl rfl ?_
        refine Ex_goto 60 d_rm_starts_144 rfl ?_
        refine Ex_forget (ls' := [some (.ref 38), some (.int (nI (f))), some (.int (1)), some (.int (nI (i))), some (.int (nI (k + 1))), none, none]) (sub_s (sub_s (sub_s (sub_s (sub_s (sub_n (sub_n sub_0))))))) ?_
        exact ih (k + 1) (by omega) _ (rvS_g (N := 8 * i + k) hI (by omega) hin (fun z => hc117 ((eT_z hO.1 hto).mpr z)))
      · refine Ex_aload_n d_rm_starts_120 rfl ?_
        refine Ex_getR (v := .ref 71) d_rm_starts_121 pf_rm_109 rfl (t_38 hs1) (r_38_46 hs1) ?_
        refine Ex_aload_n d_rm_starts_124 rfl ?_
        refine Ex_getIE (y := (nI (n))) d_rm_starts_125 pf_rm_307 rfl (t_38 hs1) (by first | (rw [mI_oth (Or.inl (by decide)), mI_oth (Or.inl (by decide))]; exact hn38) | (rw [mI_oth (Or.inl (by decide)), mI_oth (Or.inl (by decide)), mI_oth (Or.inl (by decide))]; exact hn38)) ?_
        refine Ex_iload d_rm_starts_128 rfl ?_
        refine Ex_iastoreN (a := n) d_rm_starts_130 (t_71 hs1) rfl (by omega) (by decide) ?_
        refine Ex_aload_n d_rm_starts_131 rfl ?_
        refine Ex_dup rfl d_rm_starts_132 ?_
        refine Ex_getIE (y := (nI (n))) d_rm_starts_133 pf_rm_307 rfl (t_38 hs1) (by first | (rw [mI_oth (Or.inl (by decide)), mI_oth (Or.inl (by decide))]; exact hn38) | (rw [mI_oth (Or.inl (by decide)), mI_oth (Or.inl (by decide)), mI_oth (Or.inl (by decide))]; exact hn38)) ?_
        refine Ex_iconst d_rm_starts_136 ic_1 ?_
        refine Ex_iaddN (n) (1) d_rm_starts_137 rfl rfl ?_
        refine Ex_putI d_rm_starts_138 pf_rm_307 (Or.inl rfl) (t_38 hs1) (Or.inl rfl) ?_
        refine Ex_iincN (k) 1 [some (.ref 38), some (.int (nI (f))), some (.int (1)), some (.int (nI (i))), some (.int (nI (k + 1))), some (.int (nI ((8 * i) + k))), some (.int (eT (fT F f (8 * i + k))))] d_rm_starts_141 rfl rfl rfl rfl ?_
        refine Ex_goto 60 d_rm_starts_144 rfl ?_
        refine Ex_forget (ls' := [some (.ref 38), some (.int (nI (f))), some (.int (1)), some (.int (nI (i))), some (.int (nI (k + 1))), none, none]) (sub_s (sub_s (sub_s (sub_s (sub_s (sub_n (sub_n sub_0))))))) ?_
        exact ih (k + 1) (by omega) _ (rvS_o (N := 8 * i + k) hI (by omega) hin ((eT_z hO.1 hto).mp (by first | exact hc117 | exact Classical.not_not.mp hc117)) hn38 (by omega))
theorem rm_starts_L3 {S : mj_S} {Q : Option Value → mj_H → Prop} {h : mj_H} (hs : HT h) {K : SK} (hK : KM K h) (hO : KO K) {F : SF} (hFO : FO K.1 F) {f : Nat} (hf : f < F.1) (hF : FT1 F f h)
    (kx : ∀ h1 : mj_H, rvS K F f (8 * (fR F f)) h h1 → Ex S rm_starts 153 [some (.ref 38), some (.int (nI (f))), some (.int (1)), some (.int (nI (fR F f))), none, none, none] [] h1 Q) : ∀ d k : Nat, k + d = fR F f → ∀ h1 : mj_H, rvS K F f (8 * k) h h1 → Ex S rm_starts 47 [some (.ref 38), some (.int (nI (f))), some (.int (1)), some (.int (nI (k))), none, none, none] [] h1 Q := by
  have hn := HT_n hs
  have hk40 := hO.1
  have hf6 := hFO.1
  have hsh := (hFO.2.2 f hf).1
  intro d
  induction d with
  | zero =>
    intro k hkk h1 hI
    obtain rfl : fR F f = k := by omega
    have hs1 : HT h1 := (hI.1.mono (Wst_sr (f := f))).ht hs (WSM_st f)
    have hK1 := KM_sr hs (hI.1.mono (Wst_sr (f := f))) hK
    have hF1 := FT1_sr hs (hI.1.mono (Wst_sr (f := f))) hF
    refine Ex_iload_n d_rm_starts_47 rfl ?_
    refine Ex_aload_n d_rm_starts_48 rfl ?_
    refine Ex_getR (v := .ref 64) d_rm_starts_49 pf_rm_88 rfl (t_38 hs1) (r_38_35 hs1) ?_
    refine Ex_iload_n d_rm_starts_52 rfl ?_
    refine Ex_ialoadN (a := f) (y := (nI (fR F f))) d_rm_starts_53 (t_64 hs1) rfl (by omega) (by decide) hF1.1.1 ?_
    refine Ex_icmp_geN (fR F f) (fR F f) 153 d_rm_starts_54 rfl rfl rfl (by omega) (by omega) (fun hc54 => ?_) (fun hc54 => ?_)
    · exact kx h1 hI
    · exfalso; omega
  | succ d ih =>
    intro k hkk h1 hI
    have hs1 : HT h1 := (hI.1.mono (Wst_sr (f := f))).ht hs (WSM_st f)
    have hK1 := KM_sr hs (hI.1.mono (Wst_sr (f := f))) hK
    have hF1 := FT1_sr hs (hI.1.mono (Wst_sr (f := f))) hF
    refine Ex_iload_n d_rm_starts_47 rfl ?_
    refine Ex_aload_n d_rm_starts_48 rfl ?_
    refine Ex_getR (v := .ref 64) d_rm_starts_49 pf_rm_88 rfl (t_38 hs1) (r_38_35 hs1) ?_
    refine Ex_iload_n d_rm_starts_52 rfl ?_
    refine Ex_ialoadN (a := f) (y := (nI (fR F f))) d_rm_starts_53 (t_64 hs1) rfl (by omega) (by decide) hF1.1.1 ?_
    refine Ex_icmp_geN (k) (fR F f) 153 d_rm_starts_54 rfl rfl rfl (by omega) (by omega) (fun hc54 => ?_) (fun hc54 => ?_)
    · exfalso; omega
    · refine Ex_iconst d_rm_starts_57 ic_0 ?_
      refine Ex_istore [some (.ref 38), some (.int (nI (f))), some (.int (1)), some (.int (nI (k))), some (.int (0)), none, none] d_rm_starts_58 (Nat.le_of_ble_eq_true rfl) rfl ?_
      refine rm_starts_L2 hs hK hO hFO hf hF (i := k) (by omega) (fun h2 hI2 => ?_) (fC F f) 0 (by omega) h1 hI
      refine Ex_iincN (k) 1 [some (.ref 38), some (.int (nI (f))), some (.int (1)), some (.int (nI (k + 1))), some (.int (nI (fC F f))), none, none] d_rm_starts_147 rfl rfl rfl rfl ?_
      refine Ex_goto 47 d_rm_starts_150 rfl ?_
      refine Ex_forget (ls' := [some (.ref 38), some (.int (nI (f))), some (.int (1)), some (.int (nI (k + 1))), none, none, none]) (sub_s (sub_s (sub_s (sub_s (sub_n (sub_n (sub_n sub_0))))))) ?_
      have z := rvS_ns hI2 (8 - fC F f) (fun t h1 h2 => by unfold inF; omega)
      rw [show 8 * k + fC F f + (8 - fC F f) = 8 * (k + 1) by omega] at z
      exact ih (k + 1) (by omega) h2 z
theorem rm_starts_L4 {S : mj_S} {h : mj_H} (hs : HT h) {K : SK} (hK : KM K h) (hO : KO K) {F : SF} (hFO : FO K.1 F) {f : Nat} (hf : f < F.1) (hF : FT1 F f h) (hM : SM K.1 F f (fun _ => none) (fS F f) h) : ∀ d k : Nat, k + d = 64 → Ex S rm_starts 155 [some (.ref 38), some (.int (nI (f))), some (.int (bI (gdS K F f (k)))), some (.int (nI (k))), none, none, none] [] h (Pu (.int (bI (gdS K F f 64))) h) := by
  have hn := HT_n hs
  have hk40 := hO.1
  have hf6 := hFO.1
  have hsh := (hFO.2.2 f hf).1
  have hL : okLy K.1 (fun _ => none) := fun _ => trivial
  intro d
  induction d with
  | zero =>
    intro k hkd
    obtain rfl : 64 = k := by omega
    refine Ex_iload_n d_rm_starts_155 rfl ?_
    refine Ex_bipush d_rm_starts_156 bp_64 ?_
    refine Ex_icmp_geN (64) (64) 236 d_rm_starts_158 rfl rfl rfl (by omega) (by omega) (fun hc158 => ?_) (fun hc158 => ?_)
    · refine Ex_iload_n d_rm_starts_236 rfl ?_
      refine Ex_zreturn d_rm_starts_237 rfl (bI_01 _) ?_
      exact ⟨rfl, rfl⟩
    · exfalso; omega
  | succ d ih =>
    intro k hkd
    have hto := ((hFO.2.2 f hf).2.1 k (by omega)).1
    have ih := ih (k + 1) (by omega)
    rw [show gdS K F f (k + 1) = (gdS K F f k && gd1 K F f k) from rfl] at ih
    refine Ex_iload_n d_rm_starts_155 rfl ?_
    refine Ex_bipush d_rm_starts_156 bp_64 ?_
    refine Ex_icmp_geN (k) (64) 236 d_rm_starts_158 rfl rfl rfl (by omega) (by omega) (fun hc158 => ?_) (fun hc158 => ?_)
    · exfalso; omega
    · refine Ex_iload_n d_rm_starts_161 rfl ?_
      refine Ex_bipush d_rm_starts_162 bp_8 ?_
      refine Ex_idivN (k) (8) d_rm_starts_164 rfl rfl (by omega) (by omega) ?_
      refine Ex_aload_n d_rm_starts_165 rfl ?_
      refine Ex_getR (v := .ref 64) d_rm_starts_166 pf_rm_88 rfl (t_38 hs) (r_38_35 hs) ?_
      refine Ex_iload_n d_rm_starts_169 rfl ?_
      refine Ex_ialoadN (a := f) (y := (nI (fR F f))) d_rm_starts_170 (t_64 hs) rfl (by omega) (by decide) hF.1.1 ?_
      refine Ex_icmp_geN (k / 8) (fR F f) 230 d_rm_starts_171 rfl rfl rfl (by omega) (by omega) (fun hc171 => ?_) (fun hc171 => ?_)
      · rw [gd1_n (by unfold inF; omega), Bool.and_true] at ih
        refine Ex_iincN (k) 1 [some (.ref 38), some (.int (nI (f))), some (.int (bI (gdS K F f (k)))), some (.int (nI (k + 1))), none, none, none] d_rm_starts_230 rfl rfl rfl rfl ?_
        refine Ex_goto 155 d_rm_starts_233 rfl ?_
        exact ih
      · refine Ex_iload_n d_rm_starts_174 rfl ?_
        refine Ex_bipush d_rm_starts_175 bp_8 ?_
        refine Ex_iremN (k) (8) d_rm_starts_177 rfl rfl (by omega) (by omega) ?_
        refine Ex_aload_n d_rm_starts_178 rfl ?_
        refine Ex_getR (v := .ref 65) d_rm_starts_179 pf_rm_91 rfl (t_38 hs) (r_38_36 hs) ?_
        refine Ex_iload_n d_rm_starts_182 rfl ?_
        refine Ex_ialoadN (a := f) (y := (nI (fC F f))) d_rm_starts_183 (t_65 hs) rfl (by omega) (by decide) hF.1.2 ?_
        refine Ex_icmp_geN (k % 8) (fC F f) 230 d_rm_starts_184 rfl rfl rfl (by omega) (by omega) (fun hc184 => ?_) (fun hc184 => ?_)
        · rw [gd1_n (by unfold inF; omega), Bool.and_true] at ih
          refine Ex_iincN (k) 1 [some (.ref 38), some (.int (nI (f))), some (.int (bI (gdS K F f (k)))), some (.int (nI (k + 1))), none, none, none] d_rm_starts_230 rfl rfl rfl rfl ?_
          refine Ex_goto 155 d_rm_starts_233 rfl ?_
          exact ih
        · refine Ex_aload_n d_rm_starts_187 rfl ?_
          refine Ex_getR (v := .ref 66) d_rm_starts_188 pf_rm_94 rfl (t_38 hs) (r_38_37 hs) ?_
          refine Ex_bipush d_rm_starts_191 bp_64 ?_
          refine Ex_iload_n d_rm_starts_193 rfl ?_
          refine Ex_imulN (64) (f) d_rm_starts_194 rfl rfl ?_
          refine Ex_iload_n d_rm_starts_195 rfl ?_
          refine Ex_iaddN (64 * f) (k) d_rm_starts_196 rfl rfl ?_
          refine Ex_ialoadN (a := (64 * f) + k) (y := (eT (fT F f k))) d_rm_starts_197 (t_66 hs) rfl (by omega) (by decide) (hF.2.1 k (by omega)) ?_
          refine Ex_if_le 230 d_rm_starts_198 rfl (fun hc198 => ?_) (fun hc198 => ?_)
          · rw [gd1_t (eT_le hO.1 hto hc198), Bool.and_true] at ih
            refine Ex_iincN (k) 1 [some (.ref 38), some (.int (nI (f))), some (.int (bI (gdS K F f (k)))), some (.int (nI (k + 1))), none, none, none] d_rm_starts_230 rfl rfl rfl rfl ?_
            refine Ex_goto 155 d_rm_starts_233 rfl ?_
            exact ih
          · obtain ⟨q, hq⟩ := eT_gt hO.1 hto (by first | exact hc198 | exact Int32.not_le.mpr hc198)
            rw [gd1_q (by unfold inF; omega) hq] at ih
            rw [hq] at hto
            refine Ex_iload_n d_rm_starts_201 rfl ?_
            refine Ex_if_eqB (gdS K F f (k)) 228 d_rm_starts_202 rfl rfl (fun hc202 => ?_) (fun hc202 => ?_)
            · rw [hc202, Bool.false_and] at ih
              refine Ex_iconst d_rm_starts_228 ic_0 ?_
              refine Ex_istore_n [some (.ref 38), some (.int (nI (f))), some (.int (0)), some (.int (nI (k))), none, none, none] d_rm_starts_229 (Nat.le_of_ble_eq_true rfl) rfl ?_
              refine Ex_iincN (k) 1 [some (.ref 38), some (.int (nI (f))), some (.int (0)), some (.int (nI (k + 1))), none, none, none] d_rm_starts_230 rfl rfl rfl rfl ?_
              refine Ex_goto 155 d_rm_starts_233 rfl ?_
              exact ih
            · rw [hc202, Bool.true_and] at ih
              refine Ex_aload_n d_rm_starts_205 rfl ?_
              refine Ex_iload_n d_rm_starts_206 rfl ?_
              refine Ex_aload_n d_rm_starts_207 rfl ?_
              refine Ex_getR (v := .ref 66) d_rm_starts_208 pf_rm_94 rfl (t_38 hs) (r_38_37 hs) ?_
              refine Ex_bipush d_rm_starts_211 bp_64 ?_
              refine Ex_iload_n d_rm_starts_213 rfl ?_
              refine Ex_imulN (64) (f) d_rm_starts_214 rfl rfl ?_
              refine Ex_iload_n d_rm_starts_215 rfl ?_
              refine Ex_iaddN (64 * f) (k) d_rm_starts_216 rfl rfl ?_
              refine Ex_ialoadN (a := (64 * f) + k) (y := (eT (fT F f k))) d_rm_starts_217 (t_66 hs) rfl (by omega) (by decide) (hF.2.1 k (by omega)) ?_
              refine Ex_pV2 (v := .int (bI (mayB K F f (fun _ => none) k (some q)))) d_rm_starts_218 pk_rm_starts_300 (t_38 hs) (show Cl S rm_mayLie [.ref 38, .int (nI k), .int (eT (fT F f k))] h _ by rw [hq]; exact rm_mayLie_s hs hK hO hFO hf hF hL hM (k := k) (by omega) (q := some q) hto) ?_
              refine Ex_if_eqB (mayB K F f (fun _ => none) k (some q)) 228 d_rm_starts_221 rfl rfl (fun hc221 => ?_) (fun hc221 => ?_)
              · rw [hc221] at ih
                refine Ex_iconst d_rm_starts_228 ic_0 ?_
                refine Ex_istore_n [some (.ref 38), some (.int (nI (f))), some (.int (0)), some (.int (nI (k))), none, none, none] d_rm_starts_229 (Nat.le_of_ble_eq_true rfl) rfl ?_
                refine Ex_iincN (k) 1 [some (.ref 38), some (.int (nI (f))), some (.int (0)), some (.int (nI (k + 1))), none, none, none] d_rm_starts_230 rfl rfl rfl rfl ?_
                refine Ex_goto 155 d_rm_starts_233 rfl ?_
                exact ih
              · rw [hc221] at ih
                refine Ex_iconst d_rm_starts_224 ic_1 ?_
                refine Ex_goto 229 d_rm_starts_225 rfl ?_
                refine Ex_istore_n [some (.ref 38), some (.int (nI (f))), some (.int (1)), some (.int (nI (k))), none, none, none] d_rm_starts_229 (Nat.le_of_ble_eq_true rfl) rfl ?_
                refine Ex_iincN (k) 1 [some (.ref 38), some (.int (nI (f))), some (.int (1)), some (.int (nI (k + 1))), none, none, none] d_rm_starts_230 rfl rfl rfl rfl ?_
                refine Ex_goto 155 d_rm_starts_233 rfl ?_
                exact ih
theorem FT1_M {F : SF} {f : Nat} {h : mj_H} (hf : f < F.1) (hF : FM F h) : FT1 F f h := by
  obtain ⟨a, b, c⟩ := hF.2.2 f hf
  exact ⟨a, fun k hk => (b k hk).1, c⟩
def stP (K : SK) (F : SF) (f : Nat) (h h1 : mj_H) : Prop := Fr (Wst f) h h1 ∧ SM K.1 F f (fun _ => none) (fS F f) h1 ∧ (∃ n o, OM F f n o h1) ∧ ∀ k, k < 64 → mI h1 67 (64 * f + k) = 0
theorem rm_starts_s {S : mj_S} {h : mj_H} (hs : HT h) {K : SK} (hK : KM K h) (hO : KO K) {F : SF} (hFO : FO K.1 F) {f : Nat} (hf : f < F.1) (hF : FT1 F f h) (h67 : ∀ k, k < 64 → ¬ inF F f k → mI h 67 (64 * f + k) = 0) : Cl S rm_starts [.ref 38, .int (nI (f))] h (fun r h' => r = some (.int (bI (gdS K F f 64))) ∧ stP K F f h h') := by
  show Ex S rm_starts 0 [some (.ref 38), some (.int (nI (f))), none, none, none, none, none] [] h _
  have hn := HT_n hs
  have hk40 := hO.1
  have hf6 := hFO.1
  have hsh := (hFO.2.2 f hf).1
  refine Ex_aload_n d_rm_starts_0 rfl ?_
  refine Ex_iload_n d_rm_starts_1 rfl ?_
  refine Ex_putI d_rm_starts_2 pf_rm_294 (Or.inl rfl) (t_38 hs) (Or.inl rfl) ?_
  refine Ex_aload_n d_rm_starts_5 rfl ?_
  refine Ex_iconst d_rm_starts_6 ic_0 ?_
  refine Ex_putI d_rm_starts_7 pf_rm_307 (Or.inl rfl) (t_38 hs) (Or.inl rfl) ?_
  refine Ex_iconst d_rm_starts_10 ic_0 ?_
  refine Ex_istore_n [some (.ref 38), some (.int (nI (f))), some (.int (0)), none, none, none, none] d_rm_starts_11 (Nat.le_of_ble_eq_true rfl) rfl ?_
  refine rm_starts_L1 hs hK hO hFO hf hF (fun h1 hI => ?_) K.1 0 (by omega) _ ⟨(Fr.rf.sI (Or.inr ⟨rfl, Or.inl rfl⟩)).sI (Or.inr ⟨rfl, Or.inr rfl⟩), by rw [mI_oth (Or.inr (by decide)), mI_self], mI_self _ _ _ _, fun j hj => absurd hj (Nat.not_lt_zero _)⟩
  refine Ex_iconst d_rm_starts_43 ic_1 ?_
  refine Ex_istore_n [some (.ref 38), some (.int (nI (f))), some (.int (1)), none, none, none, none] d_rm_starts_44 (Nat.le_of_ble_eq_true rfl) rfl ?_
  refine Ex_iconst d_rm_starts_45 ic_0 ?_
  refine Ex_istore_n [some (.ref 38), some (.int (nI (f))), some (.int (1)), some (.int (0)), none, none, none] d_rm_starts_46 (Nat.le_of_ble_eq_true rfl) rfl ?_
  refine rm_starts_L3 hs hK hO hFO hf hF (fun h2 hI2 => ?_) (fR F f) 0 (by omega) h1 ⟨hI.1.mono Wl1_st, hI.2.1, hI.2.2.2, ⟨0, fun _ => 0, EnO_z _ _, hI.2.2.1, fun i hi => absurd hi (Nat.not_lt_zero _)⟩, fun k hk => absurd hk (by omega), fun k hk hni => hI.1.I (by omega) (by unfold Wl1; omega)⟩
  have z := rvS_ns hI2 (64 - 8 * fR F f) (fun t h1 h2 => by unfold inF; omega)
  rw [show 8 * fR F f + (64 - 8 * fR F f) = 64 by omega] at z
  obtain ⟨a1, a2, a3, ⟨n, o, a4, a5, a6⟩, a7, a8⟩ := z
  have hs2 : HT h2 := (a1.mono Wst_sr).ht hs (WSM_st f)
  have hM2 : SM K.1 F f (fun _ => none) (fS F f) h2 := ⟨a2, fun k hk hi => (a7 k hk hi).1, a3⟩
  refine Ex_iconst d_rm_starts_153 ic_0 ?_
  refine Ex_istore_n [some (.ref 38), some (.int (nI (f))), some (.int (1)), some (.int (0)), none, none, none] d_rm_starts_154 (Nat.le_of_ble_eq_true rfl) rfl ?_
  refine Ex_mono (rm_starts_L4 hs2 (KM_sr hs (a1.mono (Wst_sr (f := f))) hK) hO hFO hf (FT1_sr hs (a1.mono Wst_sr) hF) hM2 64 0 (by omega)) ?_
  rintro r h3 ⟨rfl, rfl⟩
  refine ⟨rfl, a1, hM2, ⟨n, o, a4, a5, a6⟩, fun k hk => ?_⟩
  by_cases hin : inF F f k
  · exact (a7 k hk hin).2
  · rw [a8 k hk hin, h67 k hk hin]
