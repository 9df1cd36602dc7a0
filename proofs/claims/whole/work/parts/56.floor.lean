/-! FLOORS: floor, place, stock, shown on both sides. -/
abbrev Pl : Type := Option (Nat × Nat)
abbrev To : Type := Option (Option (Nat × Nat))
abbrev SF : Type := Nat × (Nat → Nat) × (Nat → Nat) × (Nat → Nat → To) × (Nat → Nat → Pl) × (Nat → Nat → Nat) × Nat
def fR (F : SF) : Nat → Nat := F.2.1
def fC (F : SF) : Nat → Nat := F.2.2.1
def fT (F : SF) : Nat → Nat → To := F.2.2.2.1
def fL (F : SF) : Nat → Nat → Pl := F.2.2.2.2.1
def fS (F : SF) : Nat → Nat → Nat := F.2.2.2.2.2.1
def fE (F : SF) : Nat := F.2.2.2.2.2.2
def plT (p : Pl) : Tl := match p with
  | none => none
  | some (k, m) => some (k, m, 0)
def eP (p : Pl) : Int32 := eM (plT p)
def eT (t : To) : Int32 := match t with
  | none => 0
  | some none => -2
  | some (some q) => eP (some q)
def cQ (p : Pl) : Int32 := match p with
  | none => -1
  | some (k, m) => nI (8 * k + m)
def cT (t : To) : Int32 := match t with
  | none => -1
  | some none => -2
  | some (some q) => cQ (some q)
def okP (n : Nat) (p : Pl) : Prop := match p with
  | none => True
  | some (k, m) => k < n ∧ m < 8
def okTo (n : Nat) (t : To) : Prop := match t with
  | none => True
  | some q => okP n q
def FM (F : SF) (h : mj_H) : Prop := mI h 38 40 = nI F.1 ∧ mI h 38 41 = nI (fE F) ∧ ∀ f, f < F.1 → (mI h 64 f = nI (fR F f) ∧ mI h 65 f = nI (fC F f)) ∧ (∀ k, k < 64 → mI h 66 (64 * f + k) = eT (fT F f k) ∧ mI h 67 (64 * f + k) = eP (fL F f k)) ∧ ∀ k, k < 40 → mI h 68 (40 * f + k) = nI (fS F f k)
def FO (n : Nat) (F : SF) : Prop := F.1 ≤ 6 ∧ fE F ≤ 600000 ∧ ∀ f, f < F.1 → (1 ≤ fR F f ∧ fR F f ≤ 8 ∧ 1 ≤ fC F f ∧ fC F f ≤ 8) ∧ (∀ k, k < 64 → okTo n (fT F f k) ∧ okP n (fL F f k)) ∧ ∀ k, k < 40 → fS F f k ≤ 99 ∧ (n ≤ k → fS F f k = 0)
def FlC1 (F : SF) (Y : OW) (h : mj_H) (f a b c d : Nat) : Prop := ((74 ≤ a ∧ Y a = (7, f)) ∧ (74 ≤ b ∧ Y b = (8, f)) ∧ (74 ≤ c ∧ Y c = (9, f)) ∧ (74 ≤ d ∧ Y d = (10, f))) ∧ (mR h 37 f = some a ∧ mT h a = some (13, 5) ∧ mR h a 2 = some b ∧ mR h a 3 = some c ∧ mR h a 4 = some d ∧ mT h b = some (0, 64) ∧ mT h c = some (0, 64) ∧ mT h d = some (0, 40)) ∧ (mI h a 0 = nI (fR F f) ∧ mI h a 1 = nI (fC F f)) ∧ (∀ k, k < 64 → mI h b k = cT (fT F f k) ∧ mI h c k = cQ (fL F f k)) ∧ ∀ k, k < 40 → mI h d k = nI (fS F f k)
def FC (F : SF) (Y : OW) (h : mj_H) : Prop := mI h 0 12 = nI F.1 ∧ mI h 18 9 = nI (fE F) ∧ ∀ f, f < F.1 → ∃ a b c d, FlC1 F Y h f a b c d
def WFM (a k : Nat) : Prop := (64 ≤ a ∧ a ≤ 68) ∨ (a = 38 ∧ (k = 40 ∨ k = 41))
def WFc (Y : OW) (a k : Nat) : Prop := (a = 0 ∧ k = 12) ∨ (a = 18 ∧ k = 9) ∨ a = 37 ∨ (74 ≤ a ∧ 7 ≤ (Y a).1 ∧ (Y a).1 ≤ 10)
def WFC (Y : OW) (a k : Nat) : Prop := WFc Y a k ∨ Wal a k
theorem WFM_st : ∀ q ∈ statR, ¬ WFM q.1 q.2.1 := by unfold WFM; decide
theorem WFC_st (Y : OW) : ∀ q ∈ statR, ¬ WFC Y q.1 q.2.1 := by
  intro q hq
  have h1 := st_lt q hq
  have h2 : ∀ q ∈ statR, ¬ ((q.1 = 0 ∧ q.2.1 = 12) ∨ (q.1 = 18 ∧ q.2.1 = 9) ∨ q.1 = 37 ∨ (q.1 = 0 ∧ q.2.1 = 1000000000)) := by decide
  have h3 := h2 q hq
  unfold WFC WFc Wal
  omega
theorem FM_fr {W : Nat → Nat → Prop} {F : SF} {h h' : mj_H} (hs : HT h) (f : Fr W h h') (hw : ∀ a k, WFM a k → ¬ W a k) (hF : FM F h) : FM F h' := by
  have hn := HT_n hs
  refine ⟨?_, ?_, fun q hq => ?_⟩
  · rw [f.I (by omega) (hw _ _ (by unfold WFM; omega))]; exact hF.1
  · rw [f.I (by omega) (hw _ _ (by unfold WFM; omega))]; exact hF.2.1
  · obtain ⟨⟨a1, a2⟩, a3, a4⟩ := hF.2.2 q hq
    refine ⟨⟨?_, ?_⟩, fun k hk => ⟨?_, ?_⟩, fun k hk => ?_⟩
    · rw [f.I (by omega) (hw _ _ (by unfold WFM; omega))]; exact a1
    · rw [f.I (by omega) (hw _ _ (by unfold WFM; omega))]; exact a2
    · rw [f.I (by omega) (hw _ _ (by unfold WFM; omega))]; exact (a3 k hk).1
    · rw [f.I (by omega) (hw _ _ (by unfold WFM; omega))]; exact (a3 k hk).2
    · rw [f.I (by omega) (hw _ _ (by unfold WFM; omega))]; exact a4 k hk
theorem FlC1_fr {W : Nat → Nat → Prop} {F : SF} {Y Y' : OW} {h h' : mj_H} (hs : HT h) (f : Fr W h h') {q a b c d : Nat} (h3 : ¬ W 37 q) (ha : ∀ k, ¬ W a k) (hb : ∀ k, ¬ W b k) (hc : ∀ k, ¬ W c k) (hd : ∀ k, ¬ W d k) (hy : OwE h Y Y') (z : FlC1 F Y h q a b c d) : FlC1 F Y' h' q a b c d := by
  obtain ⟨⟨⟨a1, a2⟩, ⟨a3, a4⟩, ⟨a5, a6⟩, a7, a8⟩, ⟨b1, b2, b3, b4, b5, b6, b7, b8⟩, ⟨c1, c2⟩, c3, c4⟩ := z
  have hn := HT_n hs
  have la := mT_lt b2
  have lb := mT_lt b6
  have lc := mT_lt b7
  have ld := mT_lt b8
  refine ⟨⟨⟨a1, by rw [hy _ la]; exact a2⟩, ⟨a3, by rw [hy _ lb]; exact a4⟩, ⟨a5, by rw [hy _ lc]; exact a6⟩, a7, by rw [hy _ ld]; exact a8⟩, ⟨?_, f.1.1 _ _ b2, ?_, ?_, ?_, f.1.1 _ _ b6, f.1.1 _ _ b7, f.1.1 _ _ b8⟩, ⟨?_, ?_⟩, fun k hk => ⟨?_, ?_⟩, fun k hk => ?_⟩
  · rw [f.R (by omega) h3]; exact b1
  · rw [f.R la (ha _)]; exact b3
  · rw [f.R la (ha _)]; exact b4
  · rw [f.R la (ha _)]; exact b5
  · rw [f.I la (ha _)]; exact c1
  · rw [f.I la (ha _)]; exact c2
  · rw [f.I lb (hb _)]; exact (c3 k hk).1
  · rw [f.I lc (hc _)]; exact (c3 k hk).2
  · rw [f.I ld (hd _)]; exact c4 k hk
theorem FC_fr {W : Nat → Nat → Prop} {F : SF} {Y Y' : OW} {h h' : mj_H} (hs : HT h) (f : Fr W h h') (hw : ∀ a k, WFc Y a k → ¬ W a k) (hy : OwE h Y Y') (hF : FC F Y h) : FC F Y' h' := by
  have hn := HT_n hs
  refine ⟨?_, ?_, fun q hq => ?_⟩
  · rw [f.I (by omega) (hw _ _ (by unfold WFc; omega))]; exact hF.1
  · rw [f.I (by omega) (hw _ _ (by unfold WFc; omega))]; exact hF.2.1
  · obtain ⟨a, b, c, d, z⟩ := hF.2.2 q hq
    obtain ⟨⟨a1, a2⟩, ⟨a3, a4⟩, ⟨a5, a6⟩, a7, a8⟩ := z.1
    exact ⟨a, b, c, d, FlC1_fr hs f (hw _ _ (by unfold WFc; omega)) (fun k => hw _ _ (by unfold WFc; rw [a2]; omega)) (fun k => hw _ _ (by unfold WFc; rw [a4]; omega)) (fun k => hw _ _ (by unfold WFc; rw [a6]; omega)) (fun k => hw _ _ (by unfold WFc; rw [a8]; omega)) hy z⟩
abbrev okFl (F : SF) (r c : Int) : Prop := F.1 < 6 ∧ 1 ≤ r ∧ r ≤ 8 ∧ 1 ≤ c ∧ c ≤ 8
def addF (F : SF) (r c : Nat) : SF := (F.1 + 1, va_up (fR F) F.1 r, va_up (fC F) F.1 c, va_up (fT F) F.1 (fun _ => none), va_up (fL F) F.1 (fun _ => none), va_up (fS F) F.1 (fun _ => 0), fE F)
theorem addF_o {F : SF} {r c q : Nat} (h : ¬ q = F.1) : fR (addF F r c) q = fR F q ∧ fC (addF F r c) q = fC F q ∧ fT (addF F r c) q = fT F q ∧ fL (addF F r c) q = fL F q ∧ fS (addF F r c) q = fS F q := by
  refine ⟨?_, ?_, ?_, ?_, ?_⟩ <;> exact if_neg h
theorem addF_n {F : SF} {r c : Nat} : fR (addF F r c) F.1 = r ∧ fC (addF F r c) F.1 = c ∧ fT (addF F r c) F.1 = (fun _ => none) ∧ fL (addF F r c) F.1 = (fun _ => none) ∧ fS (addF F r c) F.1 = (fun _ => 0) := by
  refine ⟨?_, ?_, ?_, ?_, ?_⟩ <;> exact if_pos rfl
theorem addF_ok {n : Nat} {F : SF} (hF : FO n F) {r c : Nat} (h : F.1 < 6 ∧ 1 ≤ r ∧ r ≤ 8 ∧ 1 ≤ c ∧ c ≤ 8) : FO n (addF F r c) := by
  refine ⟨by show F.1 + 1 ≤ 6; omega, hF.2.1, fun q hq => ?_⟩
  have hq : q < F.1 + 1 := hq
  by_cases hq1 : q = F.1
  · subst hq1
    obtain ⟨e1, e2, e3, e4, e5⟩ := addF_n (F := F) (r := r) (c := c)
    rw [e1, e2, e3, e4, e5]
    exact ⟨by omega, fun _ _ => ⟨trivial, trivial⟩, fun _ _ => ⟨Nat.zero_le _, fun _ => rfl⟩⟩
  · obtain ⟨e1, e2, e3, e4, e5⟩ := addF_o (F := F) (r := r) (c := c) hq1
    rw [e1, e2, e3, e4, e5]
    exact hF.2.2 q (by omega)
abbrev okPc (K : SK) (F : SF) (f i j k m : Int) : Prop := 0 ≤ f ∧ f < F.1 ∧ 0 ≤ i ∧ i < fR F f.toNat ∧ 0 ≤ j ∧ j < fC F f.toNat ∧ (k = -2 ∨ k = -1 ∨ (0 ≤ k ∧ k < K.1 ∧ 0 ≤ m ∧ m < 8))
def pcT (K : SK) (k m : Int) : To := if k = -2 then some none else if k = -1 then none else some (some (k.toNat, kLie K k.toNat m.toNat))
def setPl (F : SF) (f t : Nat) (w : To) : SF := (F.1, F.2.1, F.2.2.1, va_up (fT F) f (va_up (fT F f) t w), va_up (fL F) f (va_up (fL F f) t none), F.2.2.2.2.2)
def setSt (F : SF) (f k n : Nat) : SF := (F.1, F.2.1, F.2.2.1, F.2.2.2.1, F.2.2.2.2.1, va_up (fS F) f (va_up (fS F f) k n), F.2.2.2.2.2.2)
theorem up2 {α : Type} (g : Nat → Nat → α) (f t : Nat) (w : α) (q k : Nat) : va_up g f (va_up (g f) t w) q k = if q = f ∧ k = t then w else g q k := by
  unfold va_up
  by_cases hq : q = f
  · subst hq
    rw [if_pos rfl]
    by_cases hk : k = t
    · rw [if_pos hk, if_pos ⟨rfl, hk⟩]
    · rw [if_neg hk, if_neg (fun z => hk z.2)]
  · rw [if_neg hq, if_neg (fun z => hq z.1)]
theorem setPl_ok {n : Nat} {F : SF} (hF : FO n F) {f t : Nat} {w : To} (hw : okTo n w) : FO n (setPl F f t w) := by
  refine ⟨hF.1, hF.2.1, fun q hq => ?_⟩
  obtain ⟨h1, h2, h3⟩ := hF.2.2 q hq
  refine ⟨h1, fun k hk => ?_, h3⟩
  show okTo n (va_up (fT F) f (va_up (fT F f) t w) q k) ∧ okP n (va_up (fL F) f (va_up (fL F f) t none) q k)
  rw [up2, up2]
  split
  · exact ⟨hw, trivial⟩
  · exact h2 k hk
theorem setSt_ok {n : Nat} {F : SF} (hF : FO n F) {f k0 m : Nat} (hk : k0 < n) (hm : m ≤ 99) : FO n (setSt F f k0 m) := by
  refine ⟨hF.1, hF.2.1, fun q hq => ?_⟩
  obtain ⟨h1, h2, h3⟩ := hF.2.2 q hq
  refine ⟨h1, h2, fun k hk' => ?_⟩
  show va_up (fS F) f (va_up (fS F f) k0 m) q k ≤ 99 ∧ (n ≤ k → va_up (fS F) f (va_up (fS F f) k0 m) q k = 0)
  rw [up2]
  split
  · exact ⟨hm, by omega⟩
  · exact h3 k hk'
theorem pcT_ok {K : SK} (hO : KO K) {k m : Int} (h : k = -2 ∨ k = -1 ∨ (0 ≤ k ∧ k < K.1 ∧ 0 ≤ m ∧ m < 8)) : okTo K.1 (pcT K k m) := by
  unfold pcT
  split
  · trivial
  · split
    · trivial
    · exact ⟨by omega, kLie_lt hO (by omega)⟩
abbrev okSk (K : SK) (F : SF) (f k n : Int) : Prop := 0 ≤ f ∧ f < F.1 ∧ 0 ≤ k ∧ k < K.1 ∧ 0 ≤ n ∧ n ≤ 99
def vP (p : Pl) : Int := match p with
  | none => -1
  | some (k, m) => ((8 * k + m : Nat) : Int)
def vT (t : To) (p : Pl) : Int := match t with
  | none => vP p
  | some none => -2
  | some (some q) => vP (some q)
def shownS (F : SF) (f i j : Int) : Int := if 0 ≤ f ∧ f < F.1 ∧ 0 ≤ i ∧ i < fR F f.toNat ∧ 0 ≤ j ∧ j < fC F f.toNat then vT (fT F f.toNat (8 * i.toNat + j.toNat)) (fL F f.toNat (8 * i.toNat + j.toNat)) else -2
theorem rm_isFloor_s {S : mj_S} {h : mj_H} (hs : HT h) {F : SF} (hF : FM F h) {n : Nat} (hFO : FO n F) {z : Int} (hz : -2147483648 ≤ z ∧ z < 2147483648) : Cl S rm_isFloor [.ref 38, .int (J (z))] h (Pu (.int (bI (decide (0 ≤ z ∧ z < F.1)))) h) := by
  show Ex S rm_isFloor 0 [some (.ref 38), some (.int (J (z)))] [] h _
  have h8 := hFO.1
  refine Ex_iload_n d_rm_isFloor_0 rfl ?_
  refine Ex_if_ltZ (z) 16 d_rm_isFloor_1 rfl rfl (by omega) (fun hc1 => ?_) (fun hc1 => ?_)
  · refine Ex_iconst d_rm_isFloor_16 ic_0 ?_
    refine Ex_zreturn d_rm_isFloor_17 rfl (by decide) ?_
    exact Pu_f (by omega)
  · refine Ex_iload_n d_rm_isFloor_4 rfl ?_
    refine Ex_aload_n d_rm_isFloor_5 rfl ?_
    refine Ex_getIE (y := (nI (F.1))) d_rm_isFloor_6 pf_rm_285 rfl (t_38 hs) hF.1 ?_
    refine Ex_icmp_geZ (z) (((F.1 : Nat) : Int)) 16 d_rm_isFloor_9 rfl rfl (nIJ _) (by omega) (by omega) (fun hc9 => ?_) (fun hc9 => ?_)
    · refine Ex_iconst d_rm_isFloor_16 ic_0 ?_
      refine Ex_zreturn d_rm_isFloor_17 rfl (by decide) ?_
      exact Pu_f (by omega)
    · refine Ex_iconst d_rm_isFloor_12 ic_1 ?_
      refine Ex_goto 17 d_rm_isFloor_13 rfl ?_
      refine Ex_zreturn d_rm_isFloor_17 rfl (by decide) ?_
      exact Pu_t (by omega)
theorem rm_floor_L1 {S : mj_S} {Q : Option Value → mj_H → Prop} {h : mj_H} (hs : HT h) {q a c : Nat} (hq : mI h 38 40 = nI q) (hq6 : q < 6)
    (kx : ∀ h1 : mj_H, (Fr (fun a _ => a = 66 ∨ a = 67 ∨ a = 68) h h1 ∧ (∀ x, (x < 64 * q ∨ 64 * q + 64 ≤ x) → mI h1 66 x = mI h 66 x ∧ mI h1 67 x = mI h 67 x) ∧ (∀ x, mI h1 68 x = mI h 68 x) ∧ ∀ x, x < 64 → mI h1 66 (64 * q + x) = 0 ∧ mI h1 67 (64 * q + x) = 0) → Ex S rm_floor 97 [some (.ref 38), some (.int (nI (a))), some (.int (nI (c))), some (.int (nI (64)))] [] h1 Q) : ∀ d k : Nat, k + d = 64 → ∀ h1 : mj_H, (Fr (fun a _ => a = 66 ∨ a = 67 ∨ a = 68) h h1 ∧ (∀ x, (x < 64 * q ∨ 64 * q + 64 ≤ x) → mI h1 66 x = mI h 66 x ∧ mI h1 67 x = mI h 67 x) ∧ (∀ x, mI h1 68 x = mI h 68 x) ∧ ∀ x, x < k → mI h1 66 (64 * q + x) = 0 ∧ mI h1 67 (64 * q + x) = 0) → Ex S rm_floor 55 [some (.ref 38), some (.int (nI (a))), some (.int (nI (c))), some (.int (nI (k)))] [] h1 Q := by
  intro d
  induction d with
  | zero =>
    intro k hkk h1 hI
    obtain rfl : 64 = k := by omega
    refine Ex_iload_n d_rm_floor_55 rfl ?_
    refine Ex_bipush d_rm_floor_56 bp_64 ?_
    refine Ex_icmp_geN (64) (64) 97 d_rm_floor_58 rfl rfl rfl (by omega) (by omega) (fun hc58 => ?_) (fun hc58 => ?_)
    · exact kx h1 hI
    · exfalso; omega
  | succ d ih =>
    intro k hkk h1 hI
    have hs1 : HT h1 := hI.1.ht hs (by decide)
    have h40 : mI h1 38 40 = nI q := by rw [hI.1.I (by have := HT_n hs; omega) (by decide)]; exact hq
    refine Ex_iload_n d_rm_floor_55 rfl ?_
    refine Ex_bipush d_rm_floor_56 bp_64 ?_
    refine Ex_icmp_geN (k) (64) 97 d_rm_floor_58 rfl rfl rfl (by omega) (by omega) (fun hc58 => ?_) (fun hc58 => ?_)
    · exfalso; omega
    · refine Ex_aload_n d_rm_floor_61 rfl ?_
      refine Ex_getR (v := .ref 66) d_rm_floor_62 pf_rm_94 rfl (t_38 hs1) (r_38_37 hs1) ?_
      refine Ex_bipush d_rm_floor_65 bp_64 ?_
      refine Ex_aload_n d_rm_floor_67 rfl ?_
      refine Ex_getIE (y := (nI (q))) d_rm_floor_68 pf_rm_285 rfl (t_38 hs1) (by first | exact h40 | (rw [mI_oth (Or.inl (by decide))]; exact h40)) ?_
      refine Ex_imulN (64) (q) d_rm_floor_71 rfl rfl ?_
      refine Ex_iload_n d_rm_floor_72 rfl ?_
      refine Ex_iaddN (64 * q) (k) d_rm_floor_73 rfl rfl ?_
      refine Ex_iconst d_rm_floor_74 ic_0 ?_
      refine Ex_iastoreN (a := (64 * q) + k) d_rm_floor_75 (t_66 hs1) rfl (by omega) (by decide) ?_
      refine Ex_aload_n d_rm_floor_76 rfl ?_
      refine Ex_getR (v := .ref 67) d_rm_floor_77 pf_rm_97 rfl (t_38 hs1) (r_38_38 hs1) ?_
      refine Ex_bipush d_rm_floor_80 bp_64 ?_
      refine Ex_aload_n d_rm_floor_82 rfl ?_
      refine Ex_getIE (y := (nI (q))) d_rm_floor_83 pf_rm_285 rfl (t_38 hs1) (by first | exact h40 | (rw [mI_oth (Or.inl (by decide))]; exact h40)) ?_
      refine Ex_imulN (64) (q) d_rm_floor_86 rfl rfl ?_
      refine Ex_iload_n d_rm_floor_87 rfl ?_
      refine Ex_iaddN (64 * q) (k) d_rm_floor_88 rfl rfl ?_
      refine Ex_iconst d_rm_floor_89 ic_0 ?_
      refine Ex_iastoreN (a := (64 * q) + k) d_rm_floor_90 (t_67 hs1) rfl (by omega) (by decide) ?_
      refine Ex_iincN (k) 1 [some (.ref 38), some (.int (nI (a))), some (.int (nI (c))), some (.int (nI (k + 1)))] d_rm_floor_91 rfl rfl rfl rfl ?_
      refine Ex_goto 55 d_rm_floor_94 rfl ?_
      refine ih (k + 1) (by omega) _ ⟨Fr.sI (Fr.sI hI.1 (Or.inl rfl)) (Or.inr (Or.inl rfl)), fun x hx => ?_, fun x => ?_, fun x hx => ?_⟩
      · rw [mI_oth (Or.inl (by decide)), mI_oth (Or.inr (by omega)), mI_oth (Or.inr (by omega)), mI_oth (Or.inl (by decide))]
        exact hI.2.1 x hx
      · rw [mI_oth (Or.inl (by decide)), mI_oth (Or.inl (by decide))]
        exact hI.2.2.1 x
      · by_cases hxk : x = k
        · subst hxk
          rw [mI_self, mI_oth (Or.inl (by decide)), mI_self]
          exact ⟨rfl, rfl⟩
        · rw [mI_oth (Or.inl (by decide)), mI_oth (Or.inr (by omega)), mI_oth (Or.inr (by omega)), mI_oth (Or.inl (by decide))]
          exact hI.2.2.2 x (by omega)
theorem rm_floor_L2 {S : mj_S} {Q : Option Value → mj_H → Prop} {h : mj_H} (hs : HT h) {q a c : Nat} (hq : mI h 38 40 = nI q) (hq6 : q < 6)
    (kx : ∀ h1 : mj_H, (Fr (fun a _ => a = 66 ∨ a = 67 ∨ a = 68) h h1 ∧ (∀ x, mI h1 66 x = mI h 66 x ∧ mI h1 67 x = mI h 67 x) ∧ (∀ x, (x < 40 * q ∨ 40 * q + 40 ≤ x) → mI h1 68 x = mI h 68 x) ∧ ∀ x, x < 40 → mI h1 68 (40 * q + x) = 0) → Ex S rm_floor 126 [some (.ref 38), some (.int (nI (a))), some (.int (nI (c))), some (.int (nI (40)))] [] h1 Q) : ∀ d k : Nat, k + d = 40 → ∀ h1 : mj_H, (Fr (fun a _ => a = 66 ∨ a = 67 ∨ a = 68) h h1 ∧ (∀ x, mI h1 66 x = mI h 66 x ∧ mI h1 67 x = mI h 67 x) ∧ (∀ x, (x < 40 * q ∨ 40 * q + 40 ≤ x) → mI h1 68 x = mI h 68 x) ∧ ∀ x, x < k → mI h1 68 (40 * q + x) = 0) → Ex S rm_floor 99 [some (.ref 38), some (.int (nI (a))), some (.int (nI (c))), some (.int (nI (k)))] [] h1 Q := by
  intro d
  induction d with
  | zero =>
    intro k hkk h1 hI
    obtain rfl : 40 = k := by omega
    refine Ex_iload_n d_rm_floor_99 rfl ?_
    refine Ex_bipush d_rm_floor_100 bp_40 ?_
    refine Ex_icmp_geN (40) (40) 126 d_rm_floor_102 rfl rfl rfl (by omega) (by omega) (fun hc102 => ?_) (fun hc102 => ?_)
    · exact kx h1 hI
    · exfalso; omega
  | succ d ih =>
    intro k hkk h1 hI
    have hs1 : HT h1 := hI.1.ht hs (by decide)
    have h40 : mI h1 38 40 = nI q := by rw [hI.1.I (by have := HT_n hs; omega) (by decide)]; exact hq
    refine Ex_iload_n d_rm_floor_99 rfl ?_
    refine Ex_bipush d_rm_floor_100 bp_40 ?_
    refine Ex_icmp_geN (k) (40) 126 d_rm_floor_102 rfl rfl rfl (by omega) (by omega) (fun hc102 => ?_) (fun hc102 => ?_)
    · exfalso; omega
    · refine Ex_aload_n d_rm_floor_105 rfl ?_
      refine Ex_getR (v := .ref 68) d_rm_floor_106 pf_rm_100 rfl (t_38 hs1) (r_38_39 hs1) ?_
      refine Ex_bipush d_rm_floor_109 bp_40 ?_
      refine Ex_aload_n d_rm_floor_111 rfl ?_
      refine Ex_getIE (y := (nI (q))) d_rm_floor_112 pf_rm_285 rfl (t_38 hs1) (by first | exact h40 | (rw [mI_oth (Or.inl (by decide))]; exact h40)) ?_
      refine Ex_imulN (40) (q) d_rm_floor_115 rfl rfl ?_
      refine Ex_iload_n d_rm_floor_116 rfl ?_
      refine Ex_iaddN (40 * q) (k) d_rm_floor_117 rfl rfl ?_
      refine Ex_iconst d_rm_floor_118 ic_0 ?_
      refine Ex_iastoreN (a := (40 * q) + k) d_rm_floor_119 (t_68 hs1) rfl (by omega) (by decide) ?_
      refine Ex_iincN (k) 1 [some (.ref 38), some (.int (nI (a))), some (.int (nI (c))), some (.int (nI (k + 1)))] d_rm_floor_120 rfl rfl rfl rfl ?_
      refine Ex_goto 99 d_rm_floor_123 rfl ?_
      refine ih (k + 1) (by omega) _ ⟨Fr.sI hI.1 (Or.inr (Or.inr rfl)), fun x => ?_, fun x hx => ?_, fun x hx => ?_⟩
      · rw [mI_oth (Or.inl (by decide)), mI_oth (Or.inl (by decide))]
        exact hI.2.1 x
      · rw [mI_oth (Or.inr (by omega))]
        exact hI.2.2.1 x hx
      · by_cases hxk : x = k
        · subst hxk
          rw [mI_self]
        · rw [mI_oth (Or.inr (by omega))]
          exact hI.2.2.2 x (by omega)
theorem rm_floor_s {S : mj_S} {h : mj_H} (hs : HT h) {F : SF} (hF : FM F h) {n : Nat} (hFO : FO n F) {r c : Int} (hr : -2147483648 ≤ r ∧ r < 2147483648) (hc : -2147483648 ≤ c ∧ c < 2147483648) : Cl S rm_floor [.ref 38, .int (J (r)), .int (J (c))] h (AnsN (okFl F r c) F.1 (FM (addF F r.toNat c.toNat)) WFM h) := by
  show Ex S rm_floor 0 [some (.ref 38), some (.int (J (r))), some (.int (J (c))), none] [] h _
  have h8 := hFO.1
  refine Ex_aload_n d_rm_floor_0 rfl ?_
  refine Ex_getIE (y := (nI (F.1))) d_rm_floor_1 pf_rm_285 rfl (t_38 hs) (by first | exact hF.1 | (rw [mI_oth (Or.inl (by decide))]; exact hF.1)) ?_
  refine Ex_bipush d_rm_floor_4 bp_6 ?_
  refine Ex_icmp_eqN (F.1) (6) 31 d_rm_floor_6 rfl rfl rfl (by omega) (by omega) (fun hc6 => ?_) (fun hc6 => ?_)
  · refine Ex_iconst d_rm_floor_31 ic_m1 ?_
    refine Ex_ireturn d_rm_floor_32 rfl ?_
    exact Or.inl ⟨by unfold okFl; omega, rfl, rfl⟩
  · refine Ex_iload_n d_rm_floor_9 rfl ?_
    refine Ex_iconst d_rm_floor_10 ic_1 ?_
    refine Ex_icmp_ltZ (r) ((1)) 31 d_rm_floor_11 rfl rfl (by decide) (by omega) (by omega) (fun hc11 => ?_) (fun hc11 => ?_)
    · refine Ex_iconst d_rm_floor_31 ic_m1 ?_
      refine Ex_ireturn d_rm_floor_32 rfl ?_
      exact Or.inl ⟨by unfold okFl; omega, rfl, rfl⟩
    · refine Ex_iload_n d_rm_floor_14 rfl ?_
      refine Ex_bipush d_rm_floor_15 bp_8 ?_
      refine Ex_icmp_gtZ (r) ((8)) 31 d_rm_floor_17 rfl rfl (by decide) (by omega) (by omega) (fun hc17 => ?_) (fun hc17 => ?_)
      · refine Ex_iconst d_rm_floor_31 ic_m1 ?_
        refine Ex_ireturn d_rm_floor_32 rfl ?_
        exact Or.inl ⟨by unfold okFl; omega, rfl, rfl⟩
      · refine Ex_iload_n d_rm_floor_20 rfl ?_
        refine Ex_iconst d_rm_floor_21 ic_1 ?_
        refine Ex_icmp_ltZ (c) ((1)) 31 d_rm_floor_22 rfl rfl (by decide) (by omega) (by omega) (fun hc22 => ?_) (fun hc22 => ?_)
        · refine Ex_iconst d_rm_floor_31 ic_m1 ?_
          refine Ex_ireturn d_rm_floor_32 rfl ?_
          exact Or.inl ⟨by unfold okFl; omega, rfl, rfl⟩
        · refine Ex_iload_n d_rm_floor_25 rfl ?_
          refine Ex_bipush d_rm_floor_26 bp_8 ?_
          refine Ex_icmp_leZ (c) ((8)) 33 d_rm_floor_28 rfl rfl (by decide) (by omega) (by omega) (fun hc28 => ?_) (fun hc28 => ?_)
          · obtain ⟨a, rfl⟩ : ∃ a : Nat, r = (a : Int) := ⟨r.toNat, by omega⟩
            obtain ⟨b, rfl⟩ : ∃ b : Nat, c = (b : Int) := ⟨c.toNat, by omega⟩
            simp only [← nIJ]
            refine Ex_aload_n d_rm_floor_33 rfl ?_
            refine Ex_getR (v := .ref 64) d_rm_floor_34 pf_rm_88 rfl (t_38 hs) (r_38_35 hs) ?_
            refine Ex_aload_n d_rm_floor_37 rfl ?_
            refine Ex_getIE (y := (nI (F.1))) d_rm_floor_38 pf_rm_285 rfl (t_38 hs) (by first | exact hF.1 | (rw [mI_oth (Or.inl (by decide))]; exact hF.1)) ?_
            refine Ex_iload_n d_rm_floor_41 rfl ?_
            refine Ex_iastoreN (a := F.1) d_rm_floor_42 (t_64 hs) rfl (by omega) (by decide) ?_
            refine Ex_aload_n d_rm_floor_43 rfl ?_
            refine Ex_getR (v := .ref 65) d_rm_floor_44 pf_rm_91 rfl (t_38 hs) (r_38_36 hs) ?_
            refine Ex_aload_n d_rm_floor_47 rfl ?_
            refine Ex_getIE (y := (nI (F.1))) d_rm_floor_48 pf_rm_285 rfl (t_38 hs) (by first | exact hF.1 | (rw [mI_oth (Or.inl (by decide))]; exact hF.1)) ?_
            refine Ex_iload_n d_rm_floor_51 rfl ?_
            refine Ex_iastoreN (a := F.1) d_rm_floor_52 (t_65 hs) rfl (by omega) (by decide) ?_
            refine Ex_iconst d_rm_floor_53 ic_0 ?_
            refine Ex_istore_n [some (.ref 38), some (.int (nI (a))), some (.int (nI (b))), some (.int (0))] d_rm_floor_54 (Nat.le_of_ble_eq_true rfl) rfl ?_
            refine rm_floor_L1 (h := (wI (wI h 64 F.1 (nI a)) 65 F.1 (nI b))) hs (q := F.1) (by rw [mI_oth (Or.inl (by decide)), mI_oth (Or.inl (by decide))]; exact hF.1) (by omega) (fun h1 hI => ?_) 64 0 (by omega) _ ⟨Fr.rf, fun _ _ => ⟨rfl, rfl⟩, fun _ => rfl, fun x hx => absurd hx (by omega)⟩
            have hnn := HT_n hs
            have hs1 : HT h1 := hI.1.ht (show HT _ from hs) (by decide)
            have h40a : mI h1 38 40 = nI F.1 := by rw [hI.1.I (by show 38 < mN h; omega) (by decide), mI_oth (Or.inl (by decide)), mI_oth (Or.inl (by decide))]; exact hF.1
            refine Ex_iconst d_rm_floor_97 ic_0 ?_
            refine Ex_istore_n [some (.ref 38), some (.int (nI (a))), some (.int (nI (b))), some (.int (0))] d_rm_floor_98 (Nat.le_of_ble_eq_true rfl) rfl ?_
            refine rm_floor_L2 hs1 (q := F.1) h40a (by omega) (fun h2 hI2 => ?_) 40 0 (by omega) h1 ⟨Fr.rf, fun _ => ⟨rfl, rfl⟩, fun _ _ => rfl, fun x hx => absurd hx (by omega)⟩
            have hs2 : HT h2 := hI2.1.ht hs1 (by decide)
            have h40 : mI h2 38 40 = nI F.1 := by rw [hI2.1.I (by have := HT_n hs1; omega) (by decide)]; exact h40a
            refine Ex_aload_n d_rm_floor_126 rfl ?_
            refine Ex_dup rfl d_rm_floor_127 ?_
            refine Ex_getIE (y := (nI (F.1))) d_rm_floor_128 pf_rm_285 rfl (t_38 hs2) h40 ?_
            refine Ex_iconst d_rm_floor_131 ic_1 ?_
            refine Ex_iaddN (F.1) (1) d_rm_floor_132 rfl rfl ?_
            refine Ex_putI d_rm_floor_133 pf_rm_285 (Or.inl rfl) (t_38 hs2) (Or.inl rfl) ?_
            refine Ex_aload_n d_rm_floor_136 rfl ?_
            refine Ex_getIE (y := (nI (F.1 + 1))) d_rm_floor_137 pf_rm_285 rfl (t_38 hs2) (mI_self _ _ _ _) ?_
            refine Ex_iconst d_rm_floor_140 ic_1 ?_
            refine Ex_isubN (F.1 + 1) (1) d_rm_floor_141 rfl rfl (by omega) ?_
            refine Ex_ireturn d_rm_floor_142 rfl ?_
            refine Or.inr ⟨⟨by omega, by omega, by omega, by omega, by omega⟩, by rw [Nat.add_sub_cancel], ⟨mI_self _ _ _ _, ?_, fun q hq => ?_⟩, ?_⟩
            · rw [mI_oth (Or.inr (by decide)), hI2.1.I (by show 38 < mN h1; have := hI.1.le; have : mN h ≤ mN h1 := this; omega) (by decide), hI.1.I (by show 38 < mN h; omega) (by decide), mI_oth (Or.inl (by decide)), mI_oth (Or.inl (by decide))]
              exact hF.2.1
            · have hq : q < F.1 + 1 := hq
              have n1 : 74 ≤ mN h1 := HT_n hs1
              simp only [Int.toNat_natCast]
              have e4 : ∀ x, mI (wI h2 38 40 (nI (F.1 + 1))) 64 x = va_up (mI h 64) F.1 (nI a) x := fun x => by rw [mI_oth (Or.inl (by decide)), hI2.1.I (by omega) (by decide), hI.1.I (by show 64 < mN h; omega) (by decide), mI_oth (Or.inl (by decide)), mI_wI, if_pos rfl]; rfl
              have e5 : ∀ x, mI (wI h2 38 40 (nI (F.1 + 1))) 65 x = va_up (mI h 65) F.1 (nI b) x := fun x => by rw [mI_oth (Or.inl (by decide)), hI2.1.I (by omega) (by decide), hI.1.I (by show 65 < mN h; omega) (by decide), mI_wI, if_pos rfl, mI_oth (Or.inl (by decide))]; rfl
              have e6 : ∀ x, mI (wI (wI h 64 F.1 (nI a)) 65 F.1 (nI b)) 66 x = mI h 66 x ∧ mI (wI (wI h 64 F.1 (nI a)) 65 F.1 (nI b)) 67 x = mI h 67 x ∧ mI (wI (wI h 64 F.1 (nI a)) 65 F.1 (nI b)) 68 x = mI h 68 x := fun x => by
                refine ⟨?_, ?_, ?_⟩ <;> rw [mI_oth (Or.inl (by decide)), mI_oth (Or.inl (by decide))]
              have e7 : ∀ x, mI (wI h2 38 40 (nI (F.1 + 1))) 66 x = mI h1 66 x ∧ mI (wI h2 38 40 (nI (F.1 + 1))) 67 x = mI h1 67 x ∧ mI (wI h2 38 40 (nI (F.1 + 1))) 68 x = mI h2 68 x := fun x => by
                rw [mI_oth (Or.inl (by decide)), mI_oth (Or.inl (by decide)), mI_oth (Or.inl (by decide))]
                exact ⟨(hI2.2.1 x).1, (hI2.2.1 x).2, rfl⟩
              rw [e4, e5]
              by_cases hq1 : q = F.1
              · subst hq1
                obtain ⟨g1, g2, g3, g4, g5⟩ := addF_n (F := F) (r := a) (c := b)
                rw [g1, g2, g3, g4, g5]
                refine ⟨⟨if_pos rfl, if_pos rfl⟩, fun k hk => ?_, fun k hk => ?_⟩
                · rw [(e7 _).1, (e7 _).2.1]
                  exact hI.2.2.2 k hk
                · rw [(e7 _).2.2]
                  exact hI2.2.2.2 k hk
              · obtain ⟨g1, g2, g3, g4, g5⟩ := addF_o (F := F) (r := a) (c := b) hq1
                rw [g1, g2, g3, g4, g5]
                obtain ⟨⟨b1, b2⟩, b3, b4⟩ := hF.2.2 q (by omega)
                refine ⟨⟨?_, ?_⟩, fun k hk => ?_, fun k hk => ?_⟩
                · unfold va_up; rw [if_neg hq1]; exact b1
                · unfold va_up; rw [if_neg hq1]; exact b2
                · rw [(e7 _).1, (e7 _).2.1, (hI.2.1 _ (by omega)).1, (hI.2.1 _ (by omega)).2, (e6 _).1, (e6 _).2.1]
                  exact b3 k hk
                · rw [(e7 _).2.2, hI2.2.2.1 _ (by omega), hI.2.2.1, (e6 _).2.2]
                  exact b4 k hk
            · refine Fr.sI (Fr.tr (Fr.tr (Fr.sI (Fr.sI Fr.rf ?_) ?_) (hI.1.mono ?_)) (hI2.1.mono ?_)) ?_
              · unfold WFM; omega
              · unfold WFM; omega
              · intro a k z; unfold WFM; omega
              · intro a k z; unfold WFM; omega
              · unfold WFM; omega
          · refine Ex_iconst d_rm_floor_31 ic_m1 ?_
            refine Ex_ireturn d_rm_floor_32 rfl ?_
            exact Or.inl ⟨by unfold okFl; omega, rfl, rfl⟩
theorem rm_isPlace_s {S : mj_S} {h : mj_H} (hs : HT h) {F : SF} (hF : FM F h) {n : Nat} (hFO : FO n F) {f i j : Int} (hf : -2147483648 ≤ f ∧ f < 2147483648) (hi : -2147483648 ≤ i ∧ i < 2147483648) (hj : -2147483648 ≤ j ∧ j < 2147483648) : Cl S rm_isPlace [.ref 38, .int (J (f)), .int (J (i)), .int (J (j))] h (Pu (.int (bI (decide (0 ≤ f ∧ f < F.1 ∧ 0 ≤ i ∧ i < fR F f.toNat ∧ 0 ≤ j ∧ j < fC F f.toNat)))) h) := by
  show Ex S rm_isPlace 0 [some (.ref 38), some (.int (J (f))), some (.int (J (i))), some (.int (J (j)))] [] h _
  have h8 := hFO.1
  refine Ex_aload_n d_rm_isPlace_0 rfl ?_
  refine Ex_iload_n d_rm_isPlace_1 rfl ?_
  refine Ex_pV1 (v := .int (bI (decide (0 ≤ f ∧ f < F.1)))) d_rm_isPlace_2 pk_rm_isPlace_288 (t_38 hs) (rm_isFloor_s hs hF hFO hf) ?_
  refine Ex_if_eqB (decide (0 ≤ f ∧ f < F.1)) 40 d_rm_isPlace_5 rfl rfl (fun hc5 => ?_) (fun hc5 => ?_)
  · rw [decide_eq_false_iff_not] at hc5
    refine Ex_iconst d_rm_isPlace_40 ic_0 ?_
    refine Ex_zreturn d_rm_isPlace_41 rfl (by decide) ?_
    exact Pu_f (by (try simp only [Int.toNat_natCast]); omega)
  · rw [decide_eq_true_eq] at hc5
    obtain ⟨a, rfl⟩ : ∃ a : Nat, f = (a : Int) := ⟨f.toNat, by omega⟩
    simp only [← nIJ]
    obtain ⟨⟨b1, b2⟩, -, -⟩ := hF.2.2 a (by omega)
    obtain ⟨hz, -, -⟩ := hFO.2.2 a (by omega)
    refine Ex_iload_n d_rm_isPlace_8 rfl ?_
    refine Ex_if_ltZ (i) 40 d_rm_isPlace_9 rfl rfl (by omega) (fun hc9 => ?_) (fun hc9 => ?_)
    · refine Ex_iconst d_rm_isPlace_40 ic_0 ?_
      refine Ex_zreturn d_rm_isPlace_41 rfl (by decide) ?_
      exact Pu_f (by (try simp only [Int.toNat_natCast]); omega)
    · refine Ex_iload_n d_rm_isPlace_12 rfl ?_
      refine Ex_aload_n d_rm_isPlace_13 rfl ?_
      refine Ex_getR (v := .ref 64) d_rm_isPlace_14 pf_rm_88 rfl (t_38 hs) (r_38_35 hs) ?_
      refine Ex_iload_n d_rm_isPlace_17 rfl ?_
      refine Ex_ialoadN (a := a) (y := (nI (fR F a))) d_rm_isPlace_18 (t_64 hs) rfl (by omega) (by decide) b1 ?_
      refine Ex_icmp_geZ (i) (((fR F a : Nat) : Int)) 40 d_rm_isPlace_19 rfl rfl (nIJ _) (by omega) (by omega) (fun hc19 => ?_) (fun hc19 => ?_)
      · refine Ex_iconst d_rm_isPlace_40 ic_0 ?_
        refine Ex_zreturn d_rm_isPlace_41 rfl (by decide) ?_
        exact Pu_f (by (try simp only [Int.toNat_natCast]); omega)
      · refine Ex_iload_n d_rm_isPlace_22 rfl ?_
        refine Ex_if_ltZ (j) 40 d_rm_isPlace_23 rfl rfl (by omega) (fun hc23 => ?_) (fun hc23 => ?_)
        · refine Ex_iconst d_rm_isPlace_40 ic_0 ?_
          refine Ex_zreturn d_rm_isPlace_41 rfl (by decide) ?_
          exact Pu_f (by (try simp only [Int.toNat_natCast]); omega)
        · refine Ex_iload_n d_rm_isPlace_26 rfl ?_
          refine Ex_aload_n d_rm_isPlace_27 rfl ?_
          refine Ex_getR (v := .ref 65) d_rm_isPlace_28 pf_rm_91 rfl (t_38 hs) (r_38_36 hs) ?_
          refine Ex_iload_n d_rm_isPlace_31 rfl ?_
          refine Ex_ialoadN (a := a) (y := (nI (fC F a))) d_rm_isPlace_32 (t_65 hs) rfl (by omega) (by decide) b2 ?_
          refine Ex_icmp_geZ (j) (((fC F a : Nat) : Int)) 40 d_rm_isPlace_33 rfl rfl (nIJ _) (by omega) (by omega) (fun hc33 => ?_) (fun hc33 => ?_)
          · refine Ex_iconst d_rm_isPlace_40 ic_0 ?_
            refine Ex_zreturn d_rm_isPlace_41 rfl (by decide) ?_
            exact Pu_f (by (try simp only [Int.toNat_natCast]); omega)
          · refine Ex_iconst d_rm_isPlace_36 ic_1 ?_
            refine Ex_goto 41 d_rm_isPlace_37 rfl ?_
            refine Ex_zreturn d_rm_isPlace_41 rfl (by decide) ?_
            exact Pu_t (by (try simp only [Int.toNat_natCast]); omega)
theorem FM_set {F : SF} {h : mj_H} (hF : FM F h) {f t : Nat} (w : To) (ht : t < 64) {x : Nat} (hx : x = 64 * f + t := by omega) : FM (setPl F f t w) (wI (wI h 66 x (eT w)) 67 x 0) := by
  subst hx
  refine ⟨by rw [mI_oth (Or.inl (by decide)), mI_oth (Or.inl (by decide))]; exact hF.1, by rw [mI_oth (Or.inl (by decide)), mI_oth (Or.inl (by decide))]; exact hF.2.1, fun q hq => ?_⟩
  obtain ⟨⟨b1, b2⟩, b3, b4⟩ := hF.2.2 q hq
  refine ⟨⟨by rw [mI_oth (Or.inl (by decide)), mI_oth (Or.inl (by decide))]; exact b1, by rw [mI_oth (Or.inl (by decide)), mI_oth (Or.inl (by decide))]; exact b2⟩, fun k hk => ?_, fun k hk => by rw [mI_oth (Or.inl (by decide)), mI_oth (Or.inl (by decide))]; exact b4 k hk⟩
  show _ = eT (va_up (fT F) f (va_up (fT F f) t w) q k) ∧ _ = eP (va_up (fL F) f (va_up (fL F f) t none) q k)
  rw [up2, up2]
  by_cases hc : q = f ∧ k = t
  · rw [if_pos hc, if_pos hc, hc.1, hc.2, mI_self, mI_oth (Or.inl (by decide)), mI_self]
    exact ⟨rfl, rfl⟩
  · rw [if_neg hc, if_neg hc, mI_oth (Or.inl (by decide)), mI_oth (Or.inr (by omega)), mI_oth (Or.inr (by omega)), mI_oth (Or.inl (by decide))]
    exact b3 k hk
theorem rm_place_s {S : mj_S} {h : mj_H} (hs : HT h) {K : SK} (hK : KM K h) (hO : KO K) {F : SF} (hF : FM F h) (hFO : FO K.1 F) {f i j k m : Int} (hf : -2147483648 ≤ f ∧ f < 2147483648) (hi : -2147483648 ≤ i ∧ i < 2147483648) (hj : -2147483648 ≤ j ∧ j < 2147483648) (hk : -2147483648 ≤ k ∧ k < 2147483648) (hm : -2147483648 ≤ m ∧ m < 2147483648) : Cl S rm_place [.ref 38, .int (J (f)), .int (J (i)), .int (J (j)), .int (J (k)), .int (J (m))] h (Ans (okPc K F f i j k m) (FM F) (FM (setPl F f.toNat (8 * i.toNat + j.toNat) (pcT K k m))) WFM h) := by
  show Ex S rm_place 0 [some (.ref 38), some (.int (J (f))), some (.int (J (i))), some (.int (J (j))), some (.int (J (k))), some (.int (J (m))), none] [] h _
  have h8 := hFO.1
  have h40 := hO.1
  refine Ex_aload_n d_rm_place_0 rfl ?_
  refine Ex_iload_n d_rm_place_1 rfl ?_
  refine Ex_iload_n d_rm_place_2 rfl ?_
  refine Ex_iload_n d_rm_place_3 rfl ?_
  refine Ex_pV3 (v := .int (bI (decide (0 ≤ f ∧ f < F.1 ∧ 0 ≤ i ∧ i < fR F f.toNat ∧ 0 ≤ j ∧ j < fC F f.toNat)))) d_rm_place_4 pk_rm_place_291 (t_38 hs) (rm_isPlace_s hs hF hFO hf hi hj) ?_
  refine Ex_if_eqB (decide (0 ≤ f ∧ f < F.1 ∧ 0 ≤ i ∧ i < fR F f.toNat ∧ 0 ≤ j ∧ j < fC F f.toNat)) 40 d_rm_place_7 rfl rfl (fun hc7 => ?_) (fun hc7 => ?_)
  · rw [decide_eq_false_iff_not] at hc7
    refine Ex_iconst d_rm_place_40 ic_0 ?_
    refine Ex_zreturn d_rm_place_41 rfl (by decide) ?_
    exact Or.inl ⟨by unfold okPc; (try simp only [Int.toNat_natCast]); omega, rfl, rfl⟩
  · rw [decide_eq_true_eq] at hc7
    refine Ex_iload d_rm_place_10 rfl ?_
    refine Ex_bipush d_rm_place_12 bp_m2 ?_
    refine Ex_icmp_eqZ (k) ((-2)) 42 d_rm_place_14 rfl rfl (by decide) (by omega) (by omega) (fun hc14 => ?_) (fun hc14 => ?_)
    · obtain ⟨hz, -, -⟩ := hFO.2.2 f.toNat (by omega)
      obtain ⟨a, rfl⟩ : ∃ a : Nat, f = (a : Int) := ⟨f.toNat, by omega⟩
      obtain ⟨b, rfl⟩ : ∃ b : Nat, i = (b : Int) := ⟨i.toNat, by omega⟩
      obtain ⟨c, rfl⟩ : ∃ c : Nat, j = (c : Int) := ⟨j.toNat, by omega⟩
      simp only [← nIJ]
      simp only [Int.toNat_natCast] at *
      refine Ex_bipush d_rm_place_42 bp_64 ?_
      refine Ex_iload_n d_rm_place_44 rfl ?_
      refine Ex_imulN (64) (a) d_rm_place_45 rfl rfl ?_
      refine Ex_bipush d_rm_place_46 bp_8 ?_
      refine Ex_iload_n d_rm_place_48 rfl ?_
      refine Ex_imulN (8) (b) d_rm_place_49 rfl rfl ?_
      refine Ex_iaddN (64 * a) (8 * b) d_rm_place_50 rfl rfl ?_
      refine Ex_iload_n d_rm_place_51 rfl ?_
      refine Ex_iaddN ((64 * a) + (8 * b)) (c) d_rm_place_52 rfl rfl ?_
      refine Ex_istore [some (.ref 38), some (.int (nI (a))), some (.int (nI (b))), some (.int (nI (c))), some (.int (J (k))), some (.int (J (m))), some (.int (nI (((64 * a) + (8 * b)) + c)))] d_rm_place_53 (Nat.le_of_ble_eq_true rfl) rfl ?_
      refine Ex_aload_n d_rm_place_55 rfl ?_
      refine Ex_getR (v := .ref 66) d_rm_place_56 pf_rm_94 rfl (t_38 hs) (r_38_37 hs) ?_
      refine Ex_iload d_rm_place_59 rfl ?_
      refine Ex_iload d_rm_place_61 rfl ?_
      refine Ex_bipush d_rm_place_63 bp_m2 ?_
      refine Ex_icmp_neZ (k) ((-2)) 73 d_rm_place_65 rfl rfl (by decide) (by omega) (by omega) (fun hc65 => ?_) (fun hc65 => ?_)
      · refine Ex_iload d_rm_place_73 rfl ?_
        refine Ex_iconst d_rm_place_75 ic_m1 ?_
        refine Ex_icmp_neZ (k) ((-1)) 83 d_rm_place_76 rfl rfl (by decide) (by omega) (by omega) (fun hc76 => ?_) (fun hc76 => ?_)
        · obtain ⟨u, rfl⟩ : ∃ u : Nat, k = (u : Int) := ⟨k.toNat, by omega⟩
          obtain ⟨v, rfl⟩ : ∃ v : Nat, m = (v : Int) := ⟨m.toNat, by omega⟩
          simp only [← nIJ]
          refine Ex_iload d_rm_place_83 rfl ?_
          refine Ex_aload_n d_rm_place_85 rfl ?_
          refine Ex_iload d_rm_place_86 rfl ?_
          refine Ex_iload d_rm_place_88 rfl ?_
          refine Ex_pV2 (v := .int (nI (kLie K u v))) d_rm_place_90 pk_rm_place_148 (t_38 hs) (rm_lies_s hs hK hO (by omega) (by omega)) ?_
          refine Ex_iconst d_rm_place_93 ic_0 ?_
          refine Ex_pS3 (v := .int (eP (some (u, kLie K u v)))) d_rm_place_94 pk_rm_place_166 (rm_cell_0 (by have := hO.1; omega) (kLie_lt hO (by omega))) ?_
          refine Ex_iastoreN (a := ((64 * a) + (8 * b)) + c) d_rm_place_97 (t_66 hs) rfl (by omega) (by decide) ?_
          refine Ex_aload_n d_rm_place_98 rfl ?_
          refine Ex_getR (v := .ref 67) d_rm_place_99 pf_rm_97 rfl (t_38 hs) (r_38_38 hs) ?_
          refine Ex_iload d_rm_place_102 rfl ?_
          refine Ex_iconst d_rm_place_104 ic_0 ?_
          refine Ex_iastoreN (a := ((64 * a) + (8 * b)) + c) d_rm_place_105 (t_67 hs) rfl (by omega) (by decide) ?_
          refine Ex_iconst d_rm_place_106 ic_1 ?_
          refine Ex_zreturn d_rm_place_107 rfl (by decide) ?_
          refine Or.inr ⟨⟨by omega, by omega, by omega, by rw [Int.toNat_natCast]; omega, by omega, by rw [Int.toNat_natCast]; omega, by omega⟩, rfl, ?_, Fr.sI (Fr.sI Fr.rf (by unfold WFM; omega)) (by unfold WFM; omega)⟩
          (try simp only [Int.toNat_natCast])
          unfold pcT
          rw [if_neg (by omega), if_neg (by omega)]
          (try simp only [Int.toNat_natCast])
          exact FM_set hF _ (by omega)
        · refine Ex_iconst d_rm_place_79 ic_0 ?_
          refine Ex_goto 97 d_rm_place_80 rfl ?_
          refine Ex_iastoreN (a := ((64 * a) + (8 * b)) + c) d_rm_place_97 (t_66 hs) rfl (by omega) (by decide) ?_
          refine Ex_aload_n d_rm_place_98 rfl ?_
          refine Ex_getR (v := .ref 67) d_rm_place_99 pf_rm_97 rfl (t_38 hs) (r_38_38 hs) ?_
          refine Ex_iload d_rm_place_102 rfl ?_
          refine Ex_iconst d_rm_place_104 ic_0 ?_
          refine Ex_iastoreN (a := ((64 * a) + (8 * b)) + c) d_rm_place_105 (t_67 hs) rfl (by omega) (by decide) ?_
          refine Ex_iconst d_rm_place_106 ic_1 ?_
          refine Ex_zreturn d_rm_place_107 rfl (by decide) ?_
          refine Or.inr ⟨⟨by omega, by omega, by omega, by rw [Int.toNat_natCast]; omega, by omega, by rw [Int.toNat_natCast]; omega, by omega⟩, rfl, ?_, Fr.sI (Fr.sI Fr.rf (by unfold WFM; omega)) (by unfold WFM; omega)⟩
          (try simp only [Int.toNat_natCast])
          unfold pcT
          rw [if_neg (by omega), if_pos (by omega)]
          (try simp only [Int.toNat_natCast])
          exact FM_set hF _ (by omega)
      · refine Ex_bipush d_rm_place_68 bp_m2 ?_
        refine Ex_goto 97 d_rm_place_70 rfl ?_
        refine Ex_iastoreN (a := ((64 * a) + (8 * b)) + c) d_rm_place_97 (t_66 hs) rfl (by omega) (by decide) ?_
        refine Ex_aload_n d_rm_place_98 rfl ?_
        refine Ex_getR (v := .ref 67) d_rm_place_99 pf_rm_97 rfl (t_38 hs) (r_38_38 hs) ?_
        refine Ex_iload d_rm_place_102 rfl ?_
        refine Ex_iconst d_rm_place_104 ic_0 ?_
        refine Ex_iastoreN (a := ((64 * a) + (8 * b)) + c) d_rm_place_105 (t_67 hs) rfl (by omega) (by decide) ?_
        refine Ex_iconst d_rm_place_106 ic_1 ?_
        refine Ex_zreturn d_rm_place_107 rfl (by decide) ?_
        refine Or.inr ⟨⟨by omega, by omega, by omega, by rw [Int.toNat_natCast]; omega, by omega, by rw [Int.toNat_natCast]; omega, by omega⟩, rfl, ?_, Fr.sI (Fr.sI Fr.rf (by unfold WFM; omega)) (by unfold WFM; omega)⟩
        (try simp only [Int.toNat_natCast])
        unfold pcT
        rw [if_pos (by omega)]
        (try simp only [Int.toNat_natCast])
        exact FM_set hF _ (by omega)
    · refine Ex_iload d_rm_place_17 rfl ?_
      refine Ex_iconst d_rm_place_19 ic_m1 ?_
      refine Ex_icmp_eqZ (k) ((-1)) 42 d_rm_place_20 rfl rfl (by decide) (by omega) (by omega) (fun hc20 => ?_) (fun hc20 => ?_)
      · obtain ⟨hz, -, -⟩ := hFO.2.2 f.toNat (by omega)
        obtain ⟨a, rfl⟩ : ∃ a : Nat, f = (a : Int) := ⟨f.toNat, by omega⟩
        obtain ⟨b, rfl⟩ : ∃ b : Nat, i = (b : Int) := ⟨i.toNat, by omega⟩
        obtain ⟨c, rfl⟩ : ∃ c : Nat, j = (c : Int) := ⟨j.toNat, by omega⟩
        simp only [← nIJ]
        simp only [Int.toNat_natCast] at *
        refine Ex_bipush d_rm_place_42 bp_64 ?_
        refine Ex_iload_n d_rm_place_44 rfl ?_
        refine Ex_imulN (64) (a) d_rm_place_45 rfl rfl ?_
        refine Ex_bipush d_rm_place_46 bp_8 ?_
        refine Ex_iload_n d_rm_place_48 rfl ?_
        refine Ex_imulN (8) (b) d_rm_place_49 rfl rfl ?_
        refine Ex_iaddN (64 * a) (8 * b) d_rm_place_50 rfl rfl ?_
        refine Ex_iload_n d_rm_place_51 rfl ?_
        refine Ex_iaddN ((64 * a) + (8 * b)) (c) d_rm_place_52 rfl rfl ?_
        refine Ex_istore [some (.ref 38), some (.int (nI (a))), some (.int (nI (b))), some (.int (nI (c))), some (.int (J (k))), some (.int (J (m))), some (.int (nI (((64 * a) + (8 * b)) + c)))] d_rm_place_53 (Nat.le_of_ble_eq_true rfl) rfl ?_
        refine Ex_aload_n d_rm_place_55 rfl ?_
        refine Ex_getR (v := .ref 66) d_rm_place_56 pf_rm_94 rfl (t_38 hs) (r_38_37 hs) ?_
        refine Ex_iload d_rm_place_59 rfl ?_
        refine Ex_iload d_rm_place_61 rfl ?_
        refine Ex_bipush d_rm_place_63 bp_m2 ?_
        refine Ex_icmp_neZ (k) ((-2)) 73 d_rm_place_65 rfl rfl (by decide) (by omega) (by omega) (fun hc65 => ?_) (fun hc65 => ?_)
        · refine Ex_iload d_rm_place_73 rfl ?_
          refine Ex_iconst d_rm_place_75 ic_m1 ?_
          refine Ex_icmp_neZ (k) ((-1)) 83 d_rm_place_76 rfl rfl (by decide) (by omega) (by omega) (fun hc76 => ?_) (fun hc76 => ?_)
          · obtain ⟨u, rfl⟩ : ∃ u : Nat, k = (u : Int) := ⟨k.toNat, by omega⟩
            obtain ⟨v, rfl⟩ : ∃ v : Nat, m = (v : Int) := ⟨m.toNat, by omega⟩
            simp only [← nIJ]
            refine Ex_iload d_rm_place_83 rfl ?_
            refine Ex_aload_n d_rm_place_85 rfl ?_
            refine Ex_iload d_rm_place_86 rfl ?_
            refine Ex_iload d_rm_place_88 rfl ?_
            refine Ex_pV2 (v := .int (nI (kLie K u v))) d_rm_place_90 pk_rm_place_148 (t_38 hs) (rm_lies_s hs hK hO (by omega) (by omega)) ?_
            refine Ex_iconst d_rm_place_93 ic_0 ?_
            refine Ex_pS3 (v := .int (eP (some (u, kLie K u v)))) d_rm_place_94 pk_rm_place_166 (rm_cell_0 (by have := hO.1; omega) (kLie_lt hO (by omega))) ?_
            refine Ex_iastoreN (a := ((64 * a) + (8 * b)) + c) d_rm_place_97 (t_66 hs) rfl (by omega) (by decide) ?_
            refine Ex_aload_n d_rm_place_98 rfl ?_
            refine Ex_getR (v := .ref 67) d_rm_place_99 pf_rm_97 rfl (t_38 hs) (r_38_38 hs) ?_
            refine Ex_iload d_rm_place_102 rfl ?_
            refine Ex_iconst d_rm_place_104 ic_0 ?_
            refine Ex_iastoreN (a := ((64 * a) + (8 * b)) + c) d_rm_place_105 (t_67 hs) rfl (by omega) (by decide) ?_
            refine Ex_iconst d_rm_place_106 ic_1 ?_
            refine Ex_zreturn d_rm_place_107 rfl (by decide) ?_
            refine Or.inr ⟨⟨by omega, by omega, by omega, by rw [Int.toNat_natCast]; omega, by omega, by rw [Int.toNat_natCast]; omega, by omega⟩, rfl, ?_, Fr.sI (Fr.sI Fr.rf (by unfold WFM; omega)) (by unfold WFM; omega)⟩
            (try simp only [Int.toNat_natCast])
            unfold pcT
            rw [if_neg (by omega), if_neg (by omega)]
            (try simp only [Int.toNat_natCast])
            exact FM_set hF _ (by omega)
          · refine Ex_iconst d_rm_place_79 ic_0 ?_
            refine Ex_goto 97 d_rm_place_80 rfl ?_
            refine Ex_iastoreN (a := ((64 * a) + (8 * b)) + c) d_rm_place_97 (t_66 hs) rfl (by omega) (by decide) ?_
            refine Ex_aload_n d_rm_place_98 rfl ?_
            refine Ex_getR (v := .ref 67) d_rm_place_99 pf_rm_97 rfl (t_38 hs) (r_38_38 hs) ?_
            refine Ex_iload d_rm_place_102 rfl ?_
            refine Ex_iconst d_rm_place_104 ic_0 ?_
            refine Ex_iastoreN (a := ((64 * a) + (8 * b)) + c) d_rm_place_105 (t_67 hs) rfl (by omega) (by decide) ?_
            refine Ex_iconst d_rm_place_106 ic_1 ?_
            refine Ex_zreturn d_rm_place_107 rfl (by decide) ?_
            refine Or.inr ⟨⟨by omega, by omega, by omega, by rw [Int.toNat_natCast]; omega, by omega, by rw [Int.toNat_natCast]; omega, by omega⟩, rfl, ?_, Fr.sI (Fr.sI Fr.rf (by unfold WFM; omega)) (by unfold WFM; omega)⟩
            (try simp only [Int.toNat_natCast])
            unfold pcT
            rw [if_neg (by omega), if_pos (by omega)]
            (try simp only [Int.toNat_natCast])
            exact FM_set hF _ (by omega)
        · refine Ex_bipush d_rm_place_68 bp_m2 ?_
          refine Ex_goto 97 d_rm_place_70 rfl ?_
          refine Ex_iastoreN (a := ((64 * a) + (8 * b)) + c) d_rm_place_97 (t_66 hs) rfl (by omega) (by decide) ?_
          refine Ex_aload_n d_rm_place_98 rfl ?_
          refine Ex_getR (v := .ref 67) d_rm_place_99 pf_rm_97 rfl (t_38 hs) (r_38_38 hs) ?_
          refine Ex_iload d_rm_place_102 rfl ?_
          refine Ex_iconst d_rm_place_104 ic_0 ?_
          refine Ex_iastoreN (a := ((64 * a) + (8 * b)) + c) d_rm_place_105 (t_67 hs) rfl (by omega) (by decide) ?_
          refine Ex_iconst d_rm_place_106 ic_1 ?_
          refine Ex_zreturn d_rm_place_107 rfl (by decide) ?_
          refine Or.inr ⟨⟨by omega, by omega, by omega, by rw [Int.toNat_natCast]; omega, by omega, by rw [Int.toNat_natCast]; omega, by omega⟩, rfl, ?_, Fr.sI (Fr.sI Fr.rf (by unfold WFM; omega)) (by unfold WFM; omega)⟩
          (try simp only [Int.toNat_natCast])
          unfold pcT
          rw [if_pos (by omega)]
          (try simp only [Int.toNat_natCast])
          exact FM_set hF _ (by omega)
      · refine Ex_aload_n d_rm_place_23 rfl ?_
        refine Ex_iload d_rm_place_24 rfl ?_
        refine Ex_pV1 (v := .int (bI (decide (0 ≤ k ∧ k < K.1)))) d_rm_place_26 pk_rm_place_145 (t_38 hs) (rm_isKind_s hs hK hO hk) ?_
        refine Ex_if_eqB (decide (0 ≤ k ∧ k < K.1)) 40 d_rm_place_29 rfl rfl (fun hc29 => ?_) (fun hc29 => ?_)
        · rw [decide_eq_false_iff_not] at hc29
          refine Ex_iconst d_rm_place_40 ic_0 ?_
          refine Ex_zreturn d_rm_place_41 rfl (by decide) ?_
          exact Or.inl ⟨by unfold okPc; (try simp only [Int.toNat_natCast]); omega, rfl, rfl⟩
        · rw [decide_eq_true_eq] at hc29
          refine Ex_iload d_rm_place_32 rfl ?_
          refine Ex_pS1 (v := .int (bI (decide (0 ≤ m ∧ m < 8)))) d_rm_place_34 pk_rm_place_137 (rm_isMove_s hm) ?_
          refine Ex_if_neB (decide (0 ≤ m ∧ m < 8)) 42 d_rm_place_37 rfl rfl (fun hc37 => ?_) (fun hc37 => ?_)
          · rw [decide_eq_true_eq] at hc37
            obtain ⟨hz, -, -⟩ := hFO.2.2 f.toNat (by omega)
            obtain ⟨a, rfl⟩ : ∃ a : Nat, f = (a : Int) := ⟨f.toNat, by omega⟩
            obtain ⟨b, rfl⟩ : ∃ b : Nat, i = (b : Int) := ⟨i.toNat, by omega⟩
            obtain ⟨c, rfl⟩ : ∃ c : Nat, j = (c : Int) := ⟨j.toNat, by omega⟩
            simp only [← nIJ]
            simp only [Int.toNat_natCast] at *
            refine Ex_bipush d_rm_place_42 bp_64 ?_
            refine Ex_iload_n d_rm_place_44 rfl ?_
            refine Ex_imulN (64) (a) d_rm_place_45 rfl rfl ?_
            refine Ex_bipush d_rm_place_46 bp_8 ?_
            refine Ex_iload_n d_rm_place_48 rfl ?_
            refine Ex_imulN (8) (b) d_rm_place_49 rfl rfl ?_
            refine Ex_iaddN (64 * a) (8 * b) d_rm_place_50 rfl rfl ?_
            refine Ex_iload_n d_rm_place_51 rfl ?_
            refine Ex_iaddN ((64 * a) + (8 * b)) (c) d_rm_place_52 rfl rfl ?_
            refine Ex_istore [some (.ref 38), some (.int (nI (a))), some (.int (nI (b))), some (.int (nI (c))), some (.int (J (k))), some (.int (J (m))), some (.int (nI (((64 * a) + (8 * b)) + c)))] d_rm_place_53 (Nat.le_of_ble_eq_true rfl) rfl ?_
            refine Ex_aload_n d_rm_place_55 rfl ?_
            refine Ex_getR (v := .ref 66) d_rm_place_56 pf_rm_94 rfl (t_38 hs) (r_38_37 hs) ?_
            refine Ex_iload d_rm_place_59 rfl ?_
            refine Ex_iload d_rm_place_61 rfl ?_
            refine Ex_bipush d_rm_place_63 bp_m2 ?_
            refine Ex_icmp_neZ (k) ((-2)) 73 d_rm_place_65 rfl rfl (by decide) (by omega) (by omega) (fun hc65 => ?_) (fun hc65 => ?_)
            · refine Ex_iload d_rm_place_73 rfl ?_
              refine Ex_iconst d_rm_place_75 ic_m1 ?_
              refine Ex_icmp_neZ (k) ((-1)) 83 d_rm_place_76 rfl rfl (by decide) (by omega) (by omega) (fun hc76 => ?_) (fun hc76 => ?_)
              · obtain ⟨u, rfl⟩ : ∃ u : Nat, k = (u : Int) := ⟨k.toNat, by omega⟩
                obtain ⟨v, rfl⟩ : ∃ v : Nat, m = (v : Int) := ⟨m.toNat, by omega⟩
                simp only [← nIJ]
                refine Ex_iload d_rm_place_83 rfl ?_
                refine Ex_aload_n d_rm_place_85 rfl ?_
                refine Ex_iload d_rm_place_86 rfl ?_
                refine Ex_iload d_rm_place_88 rfl ?_
                refine Ex_pV2 (v := .int (nI (kLie K u v))) d_rm_place_90 pk_rm_place_148 (t_38 hs) (rm_lies_s hs hK hO (by omega) (by omega)) ?_
                refine Ex_iconst d_rm_place_93 ic_0 ?_
                refine Ex_pS3 (v := .int (eP (some (u, kLie K u v)))) d_rm_place_94 pk_rm_place_166 (rm_cell_0 (by have := hO.1; omega) (kLie_lt hO (by omega))) ?_
                refine Ex_iastoreN (a := ((64 * a) + (8 * b)) + c) d_rm_place_97 (t_66 hs) rfl (by omega) (by decide) ?_
                refine Ex_aload_n d_rm_place_98 rfl ?_
                refine Ex_getR (v := .ref 67) d_rm_place_99 pf_rm_97 rfl (t_38 hs) (r_38_38 hs) ?_
                refine Ex_iload d_rm_place_102 rfl ?_
                refine Ex_iconst d_rm_place_104 ic_0 ?_
                refine Ex_iastoreN (a := ((64 * a) + (8 * b)) + c) d_rm_place_105 (t_67 hs) rfl (by omega) (by decide) ?_
                refine Ex_iconst d_rm_place_106 ic_1 ?_
                refine Ex_zreturn d_rm_place_107 rfl (by decide) ?_
                refine Or.inr ⟨⟨by omega, by omega, by omega, by rw [Int.toNat_natCast]; omega, by omega, by rw [Int.toNat_natCast]; omega, by omega⟩, rfl, ?_, Fr.sI (Fr.sI Fr.rf (by unfold WFM; omega)) (by unfold WFM; omega)⟩
                (try simp only [Int.toNat_natCast])
                unfold pcT
                rw [if_neg (by omega), if_neg (by omega)]
                (try simp only [Int.toNat_natCast])
                exact FM_set hF _ (by omega)
              · refine Ex_iconst d_rm_place_79 ic_0 ?_
                refine Ex_goto 97 d_rm_place_80 rfl ?_
                refine Ex_iastoreN (a := ((64 * a) + (8 * b)) + c) d_rm_place_97 (t_66 hs) rfl (by omega) (by decide) ?_
                refine Ex_aload_n d_rm_place_98 rfl ?_
                refine Ex_getR (v := .ref 67) d_rm_place_99 pf_rm_97 rfl (t_38 hs) (r_38_38 hs) ?_
                refine Ex_iload d_rm_place_102 rfl ?_
                refine Ex_iconst d_rm_place_104 ic_0 ?_
                refine Ex_iastoreN (a := ((64 * a) + (8 * b)) + c) d_rm_place_105 (t_67 hs) rfl (by omega) (by decide) ?_
                refine Ex_iconst d_rm_place_106 ic_1 ?_
                refine Ex_zreturn d_rm_place_107 rfl (by decide) ?_
                refine Or.inr ⟨⟨by omega, by omega, by omega, by rw [Int.toNat_natCast]; omega, by omega, by rw [Int.toNat_natCast]; omega, by omega⟩, rfl, ?_, Fr.sI (Fr.sI Fr.rf (by unfold WFM; omega)) (by unfold WFM; omega)⟩
                (try simp only [Int.toNat_natCast])
                unfold pcT
                rw [if_neg (by omega), if_pos (by omega)]
                (try simp only [Int.toNat_natCast])
                exact FM_set hF _ (by omega)
            · refine Ex_bipush d_rm_place_68 bp_m2 ?_
              refine Ex_goto 97 d_rm_place_70 rfl ?_
              refine Ex_iastoreN (a := ((64 * a) + (8 * b)) + c) d_rm_place_97 (t_66 hs) rfl (by omega) (by decide) ?_
              refine Ex_aload_n d_rm_place_98 rfl ?_
              refine Ex_getR (v := .ref 67) d_rm_place_99 pf_rm_97 rfl (t_38 hs) (r_38_38 hs) ?_
              refine Ex_iload d_rm_place_102 rfl ?_
              refine Ex_iconst d_rm_place_104 ic_0 ?_
              refine Ex_iastoreN (a := ((64 * a) + (8 * b)) + c) d_rm_place_105 (t_67 hs) rfl (by omega) (by decide) ?_
              refine Ex_iconst d_rm_place_106 ic_1 ?_
              refine Ex_zreturn d_rm_place_107 rfl (by decide) ?_
              refine Or.inr ⟨⟨by omega, by omega, by omega, by rw [Int.toNat_natCast]; omega, by omega, by rw [Int.toNat_natCast]; omega, by omega⟩, rfl, ?_, Fr.sI (Fr.sI Fr.rf (by unfold WFM; omega)) (by unfold WFM; omega)⟩
              (try simp only [Int.toNat_natCast])
              unfold pcT
              rw [if_pos (by omega)]
              (try simp only [Int.toNat_natCast])
              exact FM_set hF _ (by omega)
          · rw [decide_eq_false_iff_not] at hc37
            refine Ex_iconst d_rm_place_40 ic_0 ?_
            refine Ex_zreturn d_rm_place_41 rfl (by decide) ?_
            exact Or.inl ⟨by unfold okPc; (try simp only [Int.toNat_natCast]); omega, rfl, rfl⟩
theorem rm_stock_s {S : mj_S} {h : mj_H} (hs : HT h) {K : SK} (hK : KM K h) (hO : KO K) {F : SF} (hF : FM F h) (hFO : FO K.1 F) {f k n : Int} (hf : -2147483648 ≤ f ∧ f < 2147483648) (hk : -2147483648 ≤ k ∧ k < 2147483648) (hn : -2147483648 ≤ n ∧ n < 2147483648) : Cl S rm_stock [.ref 38, .int (J (f)), .int (J (k)), .int (J (n))] h (Ans (okSk K F f k n) (FM F) (FM (setSt F f.toNat k.toNat n.toNat)) WFM h) := by
  show Ex S rm_stock 0 [some (.ref 38), some (.int (J (f))), some (.int (J (k))), some (.int (J (n)))] [] h _
  have h8 := hFO.1
  have h40 := hO.1
  refine Ex_aload_n d_rm_stock_0 rfl ?_
  refine Ex_iload_n d_rm_stock_1 rfl ?_
  refine Ex_pV1 (v := .int (bI (decide (0 ≤ f ∧ f < F.1)))) d_rm_stock_2 pk_rm_stock_288 (t_38 hs) (rm_isFloor_s hs hF hFO hf) ?_
  refine Ex_if_eqB (decide (0 ≤ f ∧ f < F.1)) 26 d_rm_stock_5 rfl rfl (fun hc5 => ?_) (fun hc5 => ?_)
  · rw [decide_eq_false_iff_not] at hc5
    refine Ex_iconst d_rm_stock_26 ic_0 ?_
    refine Ex_zreturn d_rm_stock_27 rfl (by decide) ?_
    exact Or.inl ⟨by unfold okSk; omega, rfl, rfl⟩
  · rw [decide_eq_true_eq] at hc5
    refine Ex_aload_n d_rm_stock_8 rfl ?_
    refine Ex_iload_n d_rm_stock_9 rfl ?_
    refine Ex_pV1 (v := .int (bI (decide (0 ≤ k ∧ k < K.1)))) d_rm_stock_10 pk_rm_stock_145 (t_38 hs) (rm_isKind_s hs hK hO hk) ?_
    refine Ex_if_eqB (decide (0 ≤ k ∧ k < K.1)) 26 d_rm_stock_13 rfl rfl (fun hc13 => ?_) (fun hc13 => ?_)
    · rw [decide_eq_false_iff_not] at hc13
      refine Ex_iconst d_rm_stock_26 ic_0 ?_
      refine Ex_zreturn d_rm_stock_27 rfl (by decide) ?_
      exact Or.inl ⟨by unfold okSk; omega, rfl, rfl⟩
    · rw [decide_eq_true_eq] at hc13
      refine Ex_iload_n d_rm_stock_16 rfl ?_
      refine Ex_if_ltZ (n) 26 d_rm_stock_17 rfl rfl (by omega) (fun hc17 => ?_) (fun hc17 => ?_)
      · refine Ex_iconst d_rm_stock_26 ic_0 ?_
        refine Ex_zreturn d_rm_stock_27 rfl (by decide) ?_
        exact Or.inl ⟨by unfold okSk; omega, rfl, rfl⟩
      · refine Ex_iload_n d_rm_stock_20 rfl ?_
        refine Ex_bipush d_rm_stock_21 bp_99 ?_
        refine Ex_icmp_leZ (n) ((99)) 28 d_rm_stock_23 rfl rfl (by decide) (by omega) (by omega) (fun hc23 => ?_) (fun hc23 => ?_)
        · obtain ⟨a, rfl⟩ : ∃ a : Nat, f = (a : Int) := ⟨f.toNat, by omega⟩
          obtain ⟨b, rfl⟩ : ∃ b : Nat, k = (b : Int) := ⟨k.toNat, by omega⟩
          obtain ⟨c, rfl⟩ : ∃ c : Nat, n = (c : Int) := ⟨n.toNat, by omega⟩
          simp only [← nIJ]
          refine Ex_aload_n d_rm_stock_28 rfl ?_
          refine Ex_getR (v := .ref 68) d_rm_stock_29 pf_rm_100 rfl (t_38 hs) (r_38_39 hs) ?_
          refine Ex_bipush d_rm_stock_32 bp_40 ?_
          refine Ex_iload_n d_rm_stock_34 rfl ?_
          refine Ex_imulN (40) (a) d_rm_stock_35 rfl rfl ?_
          refine Ex_iload_n d_rm_stock_36 rfl ?_
          refine Ex_iaddN (40 * a) (b) d_rm_stock_37 rfl rfl ?_
          refine Ex_iload_n d_rm_stock_38 rfl ?_
          refine Ex_iastoreN (a := (40 * a) + b) d_rm_stock_39 (t_68 hs) rfl (by omega) (by decide) ?_
          refine Ex_iconst d_rm_stock_40 ic_1 ?_
          refine Ex_zreturn d_rm_stock_41 rfl (by decide) ?_
          refine Or.inr ⟨⟨by omega, by omega, by omega, by omega, by omega, by omega⟩, rfl, ?_, Fr.sI Fr.rf (by unfold WFM; omega)⟩
          (try simp only [Int.toNat_natCast])
          refine ⟨by rw [mI_oth (Or.inl (by decide))]; exact hF.1, by rw [mI_oth (Or.inl (by decide))]; exact hF.2.1, fun q hq => ?_⟩
          obtain ⟨⟨b1, b2⟩, b3, b4⟩ := hF.2.2 q hq
          refine ⟨⟨by rw [mI_oth (Or.inl (by decide))]; exact b1, by rw [mI_oth (Or.inl (by decide))]; exact b2⟩, fun k hk => by rw [mI_oth (Or.inl (by decide)), mI_oth (Or.inl (by decide))]; exact b3 k hk, fun k hk => ?_⟩
          show _ = nI (va_up (fS F) a (va_up (fS F a) b c) q k)
          rw [up2]
          by_cases hc : q = a ∧ k = b
          · rw [if_pos hc, hc.1, hc.2, mI_self]
          · rw [if_neg hc, mI_oth (Or.inr (by omega))]
            exact b4 k hk
        · refine Ex_iconst d_rm_stock_26 ic_0 ?_
          refine Ex_zreturn d_rm_stock_27 rfl (by decide) ?_
          exact Or.inl ⟨by unfold okSk; omega, rfl, rfl⟩
theorem eP_pos {k m : Nat} (hk : k < 40) (hm : m < 8) : 0 < eM (some (k, m, 0)) := by
  show nI 0 < nI (0 * 65536 + (8 * k + m + 1))
  rw [nI_ltI (by omega) (by omega)]
  omega
theorem eP_m2 {k m : Nat} (hk : k < 40) (hm : m < 8) : ¬ eM (some (k, m, 0)) = -2 := by
  intro z
  have := eP_pos hk hm
  rw [z] at this
  exact absurd this (by decide)
theorem rm_shown_s {S : mj_S} {h : mj_H} (hs : HT h) {K : SK} (hO : KO K) {F : SF} (hF : FM F h) (hFO : FO K.1 F) {f i j : Int} (hf : -2147483648 ≤ f ∧ f < 2147483648) (hi : -2147483648 ≤ i ∧ i < 2147483648) (hj : -2147483648 ≤ j ∧ j < 2147483648) : Cl S rm_shown [.ref 38, .int (J (f)), .int (J (i)), .int (J (j))] h (Pu (.int (J (shownS F f i j))) h) := by
  show Ex S rm_shown 0 [some (.ref 38), some (.int (J (f))), some (.int (J (i))), some (.int (J (j))), none, none] [] h _
  have h8 := hFO.1
  refine Ex_aload_n d_rm_shown_0 rfl ?_
  refine Ex_iload_n d_rm_shown_1 rfl ?_
  refine Ex_iload_n d_rm_shown_2 rfl ?_
  refine Ex_iload_n d_rm_shown_3 rfl ?_
  refine Ex_pV3 (v := .int (bI (decide (0 ≤ f ∧ f < F.1 ∧ 0 ≤ i ∧ i < fR F f.toNat ∧ 0 ≤ j ∧ j < fC F f.toNat)))) d_rm_shown_4 pk_rm_shown_291 (t_38 hs) (rm_isPlace_s hs hF hFO hf hi hj) ?_
  refine Ex_if_neB (decide (0 ≤ f ∧ f < F.1 ∧ 0 ≤ i ∧ i < fR F f.toNat ∧ 0 ≤ j ∧ j < fC F f.toNat)) 13 d_rm_shown_7 rfl rfl (fun hc7 => ?_) (fun hc7 => ?_)
  · rw [decide_eq_true_eq] at hc7
    obtain ⟨hz, ho, -⟩ := hFO.2.2 f.toNat (by omega)
    obtain ⟨-, hv, -⟩ := hF.2.2 f.toNat (by omega)
    obtain ⟨a, rfl⟩ : ∃ a : Nat, f = (a : Int) := ⟨f.toNat, by omega⟩
    obtain ⟨b, rfl⟩ : ∃ b : Nat, i = (b : Int) := ⟨i.toNat, by omega⟩
    obtain ⟨c, rfl⟩ : ∃ c : Nat, j = (c : Int) := ⟨j.toNat, by omega⟩
    simp only [← nIJ]
    simp only [Int.toNat_natCast] at *
    have hSh : shownS F (a : Int) (b : Int) (c : Int) = vT (fT F a (8 * b + c)) (fL F a (8 * b + c)) := by unfold shownS; simp only [Int.toNat_natCast]; rw [if_pos (by omega)]
    rw [hSh]
    obtain ⟨v1, v2⟩ := hv (8 * b + c) (by omega)
    obtain ⟨o1, o2⟩ := ho (8 * b + c) (by omega)
    refine Ex_bipush d_rm_shown_13 bp_64 ?_
    refine Ex_iload_n d_rm_shown_15 rfl ?_
    refine Ex_imulN (64) (a) d_rm_shown_16 rfl rfl ?_
    refine Ex_bipush d_rm_shown_17 bp_8 ?_
    refine Ex_iload_n d_rm_shown_19 rfl ?_
    refine Ex_imulN (8) (b) d_rm_shown_20 rfl rfl ?_
    refine Ex_iaddN (64 * a) (8 * b) d_rm_shown_21 rfl rfl ?_
    refine Ex_iload_n d_rm_shown_22 rfl ?_
    refine Ex_iaddN ((64 * a) + (8 * b)) (c) d_rm_shown_23 rfl rfl ?_
    refine Ex_istore [some (.ref 38), some (.int (nI (a))), some (.int (nI (b))), some (.int (nI (c))), some (.int (nI (((64 * a) + (8 * b)) + c))), none] d_rm_shown_24 (Nat.le_of_ble_eq_true rfl) rfl ?_
    match ht : fT F a (8 * b + c), o1 with
    | some (some (k1, m1)), o1 =>
      have hk40 := Nat.lt_of_lt_of_le o1.1 hO.1
      have hm8 := o1.2
      refine Ex_aload_n d_rm_shown_26 rfl ?_
      refine Ex_getR (v := .ref 66) d_rm_shown_27 pf_rm_94 rfl (t_38 hs) (r_38_37 hs) ?_
      refine Ex_iload d_rm_shown_30 rfl ?_
      refine Ex_ialoadN (a := ((64 * a) + (8 * b)) + c) (y := (eM (some (k1, m1, 0)))) d_rm_shown_32 (t_66 hs) rfl (by omega) (by decide) (by rw [Nat.add_assoc, v1, ht]; try rfl) ?_
      refine Ex_if_le 46 d_rm_shown_33 rfl (fun hc33 => ?_) (fun hc33 => ?_)
      · exact absurd hc33 (Int32.not_le.mpr (eP_pos (Nat.lt_of_lt_of_le o1.1 hO.1) o1.2))
      · refine Ex_aload_n d_rm_shown_36 rfl ?_
        refine Ex_getR (v := .ref 66) d_rm_shown_37 pf_rm_94 rfl (t_38 hs) (r_38_37 hs) ?_
        refine Ex_iload d_rm_shown_40 rfl ?_
        refine Ex_ialoadN (a := ((64 * a) + (8 * b)) + c) (y := (eM (some (k1, m1, 0)))) d_rm_shown_42 (t_66 hs) rfl (by omega) (by decide) (by rw [Nat.add_assoc, v1, ht]; try rfl) ?_
        refine Ex_goto 53 d_rm_shown_43 rfl ?_
        refine Ex_istore [some (.ref 38), some (.int (nI (a))), some (.int (nI (b))), some (.int (nI (c))), some (.int (nI (((64 * a) + (8 * b)) + c))), some (.int (eM (some (k1, m1, 0))))] d_rm_shown_53 (Nat.le_of_ble_eq_true rfl) rfl ?_
        refine Ex_aload_n d_rm_shown_55 rfl ?_
        refine Ex_getR (v := .ref 66) d_rm_shown_56 pf_rm_94 rfl (t_38 hs) (r_38_37 hs) ?_
        refine Ex_iload d_rm_shown_59 rfl ?_
        refine Ex_ialoadN (a := ((64 * a) + (8 * b)) + c) (y := (eM (some (k1, m1, 0)))) d_rm_shown_61 (t_66 hs) rfl (by omega) (by decide) (by rw [Nat.add_assoc, v1, ht]; try rfl) ?_
        refine Ex_bipush d_rm_shown_62 bp_m2 ?_
        refine Ex_icmp_ne 72 d_rm_shown_64 rfl (fun hc64 => ?_) (fun hc64 => ?_)
        · refine Ex_iload d_rm_shown_72 rfl ?_
          refine Ex_if_ne 81 d_rm_shown_74 rfl (fun hc74 => ?_) (fun hc74 => ?_)
          · refine Ex_bipush d_rm_shown_81 bp_8 ?_
            refine Ex_iload d_rm_shown_83 rfl ?_
            refine Ex_pS1 (v := .int (nI (k1))) d_rm_shown_85 pk_rm_shown_156 (rm_kindOf_s (Nat.lt_of_lt_of_le o1.1 hO.1) o1.2 (by omega)) ?_
            refine Ex_imulN (8) (k1) d_rm_shown_88 rfl rfl ?_
            refine Ex_iload d_rm_shown_89 rfl ?_
            refine Ex_pS1 (v := .int (nI (m1))) d_rm_shown_91 pk_rm_shown_160 (rm_moveOf_s (Nat.lt_of_lt_of_le o1.1 hO.1) o1.2 (by omega)) ?_
            refine Ex_iaddN (8 * k1) (m1) d_rm_shown_94 rfl rfl ?_
            refine Ex_ireturn d_rm_shown_95 rfl ?_
            exact Pu_nz rfl
          · exact absurd hc74 (eM_ne (q := (k1, m1, 0)) ⟨Nat.lt_of_lt_of_le o1.1 hO.1, o1.2, by omega⟩)
        · exact absurd hc64 (eP_m2 (Nat.lt_of_lt_of_le o1.1 hO.1) o1.2)
    | some none, _ =>
      refine Ex_aload_n d_rm_shown_26 rfl ?_
      refine Ex_getR (v := .ref 66) d_rm_shown_27 pf_rm_94 rfl (t_38 hs) (r_38_37 hs) ?_
      refine Ex_iload d_rm_shown_30 rfl ?_
      refine Ex_ialoadN (a := ((64 * a) + (8 * b)) + c) (y := (-2 : Int32)) d_rm_shown_32 (t_66 hs) rfl (by omega) (by decide) (by rw [Nat.add_assoc, v1, ht]; try rfl) ?_
      refine Ex_if_leZ ((-2)) 46 d_rm_shown_33 rfl (by decide) (by omega) (fun hc33 => ?_) (fun hc33 => ?_)
      · refine Ex_aload_n d_rm_shown_46 rfl ?_
        refine Ex_getR (v := .ref 67) d_rm_shown_47 pf_rm_97 rfl (t_38 hs) (r_38_38 hs) ?_
        refine Ex_iload d_rm_shown_50 rfl ?_
        refine Ex_ialoadN (a := ((64 * a) + (8 * b)) + c) (y := (eP (fL F a (8 * b + c)))) d_rm_shown_52 (t_67 hs) rfl (by omega) (by decide) (by rw [Nat.add_assoc]; exact v2) ?_
        refine Ex_istore [some (.ref 38), some (.int (nI (a))), some (.int (nI (b))), some (.int (nI (c))), some (.int (nI (((64 * a) + (8 * b)) + c))), some (.int (eP (fL F a (8 * b + c))))] d_rm_shown_53 (Nat.le_of_ble_eq_true rfl) rfl ?_
        refine Ex_aload_n d_rm_shown_55 rfl ?_
        refine Ex_getR (v := .ref 66) d_rm_shown_56 pf_rm_94 rfl (t_38 hs) (r_38_37 hs) ?_
        refine Ex_iload d_rm_shown_59 rfl ?_
        refine Ex_ialoadN (a := ((64 * a) + (8 * b)) + c) (y := (-2 : Int32)) d_rm_shown_61 (t_66 hs) rfl (by omega) (by decide) (by rw [Nat.add_assoc, v1, ht]; try rfl) ?_
        refine Ex_bipush d_rm_shown_62 bp_m2 ?_
        refine Ex_icmp_neZ ((-2)) ((-2)) 72 d_rm_shown_64 rfl (by decide) (by decide) (by omega) (by omega) (fun hc64 => ?_) (fun hc64 => ?_)
        · exact absurd hc64 (by decide)
        · refine Ex_bipush d_rm_shown_67 bp_m2 ?_
          refine Ex_goto 95 d_rm_shown_69 rfl ?_
          refine Ex_ireturn d_rm_shown_95 rfl ?_
          exact Pu_zc (show J (-2) = -2 by decide)
      · exact absurd hc33 (by decide)
    | none, _ =>
      match hl : fL F a (8 * b + c), o2 with
      | none, _ =>
        refine Ex_aload_n d_rm_shown_26 rfl ?_
        refine Ex_getR (v := .ref 66) d_rm_shown_27 pf_rm_94 rfl (t_38 hs) (r_38_37 hs) ?_
        refine Ex_iload d_rm_shown_30 rfl ?_
        refine Ex_ialoadN (a := ((64 * a) + (8 * b)) + c) (y := (0 : Int32)) d_rm_shown_32 (t_66 hs) rfl (by omega) (by decide) (by rw [Nat.add_assoc, v1, ht]; try rfl) ?_
        refine Ex_if_leN (0) 46 d_rm_shown_33 rfl rfl (by omega) (fun hc33 => ?_) (fun hc33 => ?_)
        · refine Ex_aload_n d_rm_shown_46 rfl ?_
          refine Ex_getR (v := .ref 67) d_rm_shown_47 pf_rm_97 rfl (t_38 hs) (r_38_38 hs) ?_
          refine Ex_iload d_rm_shown_50 rfl ?_
          refine Ex_ialoadN (a := ((64 * a) + (8 * b)) + c) (y := (0 : Int32)) d_rm_shown_52 (t_67 hs) rfl (by omega) (by decide) (by rw [Nat.add_assoc, v2, hl]; try rfl) ?_
          refine Ex_istore [some (.ref 38), some (.int (nI (a))), some (.int (nI (b))), some (.int (nI (c))), some (.int (nI (((64 * a) + (8 * b)) + c))), some (.int (0))] d_rm_shown_53 (Nat.le_of_ble_eq_true rfl) rfl ?_
          refine Ex_aload_n d_rm_shown_55 rfl ?_
          refine Ex_getR (v := .ref 66) d_rm_shown_56 pf_rm_94 rfl (t_38 hs) (r_38_37 hs) ?_
          refine Ex_iload d_rm_shown_59 rfl ?_
          refine Ex_ialoadN (a := ((64 * a) + (8 * b)) + c) (y := (0 : Int32)) d_rm_shown_61 (t_66 hs) rfl (by omega) (by decide) (by rw [Nat.add_assoc, v1, ht]; try rfl) ?_
          refine Ex_bipush d_rm_shown_62 bp_m2 ?_
          refine Ex_icmp_neZ ((0)) ((-2)) 72 d_rm_shown_64 rfl (by decide) (by decide) (by omega) (by omega) (fun hc64 => ?_) (fun hc64 => ?_)
          · refine Ex_iload d_rm_shown_72 rfl ?_
            refine Ex_if_neN (0) 81 d_rm_shown_74 rfl rfl (by omega) (fun hc74 => ?_) (fun hc74 => ?_)
            · exact absurd hc74 (by decide)
            · refine Ex_iconst d_rm_shown_77 ic_m1 ?_
              refine Ex_goto 95 d_rm_shown_78 rfl ?_
              refine Ex_ireturn d_rm_shown_95 rfl ?_
              exact Pu_m1 rfl
          · exact absurd hc64 (by decide)
        · exact absurd hc33 (by decide)
      | some (k2, m2), o2 =>
        have hk40 := Nat.lt_of_lt_of_le o2.1 hO.1
        have hm8 := o2.2
        refine Ex_aload_n d_rm_shown_26 rfl ?_
        refine Ex_getR (v := .ref 66) d_rm_shown_27 pf_rm_94 rfl (t_38 hs) (r_38_37 hs) ?_
        refine Ex_iload d_rm_shown_30 rfl ?_
        refine Ex_ialoadN (a := ((64 * a) + (8 * b)) + c) (y := (0 : Int32)) d_rm_shown_32 (t_66 hs) rfl (by omega) (by decide) (by rw [Nat.add_assoc, v1, ht]; try rfl) ?_
        refine Ex_if_leN (0) 46 d_rm_shown_33 rfl rfl (by omega) (fun hc33 => ?_) (fun hc33 => ?_)
        · refine Ex_aload_n d_rm_shown_46 rfl ?_
          refine Ex_getR (v := .ref 67) d_rm_shown_47 pf_rm_97 rfl (t_38 hs) (r_38_38 hs) ?_
          refine Ex_iload d_rm_shown_50 rfl ?_
          refine Ex_ialoadN (a := ((64 * a) + (8 * b)) + c) (y := (eM (some (k2, m2, 0)))) d_rm_shown_52 (t_67 hs) rfl (by omega) (by decide) (by rw [Nat.add_assoc, v2, hl]; try rfl) ?_
          refine Ex_istore [some (.ref 38), some (.int (nI (a))), some (.int (nI (b))), some (.int (nI (c))), some (.int (nI (((64 * a) + (8 * b)) + c))), some (.int (eM (some (k2, m2, 0))))] d_rm_shown_53 (Nat.le_of_ble_eq_true rfl) rfl ?_
          refine Ex_aload_n d_rm_shown_55 rfl ?_
          refine Ex_getR (v := .ref 66) d_rm_shown_56 pf_rm_94 rfl (t_38 hs) (r_38_37 hs) ?_
          refine Ex_iload d_rm_shown_59 rfl ?_
          refine Ex_ialoadN (a := ((64 * a) + (8 * b)) + c) (y := (0 : Int32)) d_rm_shown_61 (t_66 hs) rfl (by omega) (by decide) (by rw [Nat.add_assoc, v1, ht]; try rfl) ?_
          refine Ex_bipush d_rm_shown_62 bp_m2 ?_
          refine Ex_icmp_neZ ((0)) ((-2)) 72 d_rm_shown_64 rfl (by decide) (by decide) (by omega) (by omega) (fun hc64 => ?_) (fun hc64 => ?_)
          · refine Ex_iload d_rm_shown_72 rfl ?_
            refine Ex_if_ne 81 d_rm_shown_74 rfl (fun hc74 => ?_) (fun hc74 => ?_)
            · refine Ex_bipush d_rm_shown_81 bp_8 ?_
              refine Ex_iload d_rm_shown_83 rfl ?_
              refine Ex_pS1 (v := .int (nI (k2))) d_rm_shown_85 pk_rm_shown_156 (rm_kindOf_s (Nat.lt_of_lt_of_le o2.1 hO.1) o2.2 (by omega)) ?_
              refine Ex_imulN (8) (k2) d_rm_shown_88 rfl rfl ?_
              refine Ex_iload d_rm_shown_89 rfl ?_
              refine Ex_pS1 (v := .int (nI (m2))) d_rm_shown_91 pk_rm_shown_160 (rm_moveOf_s (Nat.lt_of_lt_of_le o2.1 hO.1) o2.2 (by omega)) ?_
              refine Ex_iaddN (8 * k2) (m2) d_rm_shown_94 rfl rfl ?_
              refine Ex_ireturn d_rm_shown_95 rfl ?_
              exact Pu_nz rfl
            · exact absurd hc74 (eM_ne (q := (k2, m2, 0)) ⟨Nat.lt_of_lt_of_le o2.1 hO.1, o2.2, by omega⟩)
          · exact absurd hc64 (by decide)
        · exact absurd hc33 (by decide)
  · rw [decide_eq_false_iff_not] at hc7
    refine Ex_bipush d_rm_shown_10 bp_m2 ?_
    refine Ex_ireturn d_rm_shown_12 rfl ?_
    exact Pu_zc (by unfold shownS; rw [if_neg (by omega)]; decide)
