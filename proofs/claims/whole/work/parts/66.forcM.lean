/-! The reference: forced. -/
def sgS (K : SK) (F : SF) (f : Nat) (L : Nat → Pl) (l : Nat → Nat) (k : Nat) : Option Nat := if wtB F f L k = true ∧ fgS K F f L l k = 1 then nfS K F f L l k 0 else none
abbrev RS : Type := (Nat → Pl) × (Nat → Nat) × Nat
def rd1 (K : SK) (F : SF) (f : Nat) (T : Nat → Option Nat) (s : RS) (k : Nat) : RS := match T k with
  | none => s
  | some x => if 0 < s.2.1 (x / 8) ∧ mayB K F f s.1 k (some (x / 8, x % 8)) = true then (lyS s.1 k (some (x / 8, x % 8)), leS s.2.1 (x / 8) (s.2.1 (x / 8) - 1), s.2.2 + 1) else s
def rdF (K : SK) (F : SF) (f : Nat) (T : Nat → Option Nat) (s : RS) : Nat → RS
  | 0 => s
  | k + 1 => rd1 K F f T (rdF K F f T s k) k
def frS (K : SK) (F : SF) (f : Nat) : Nat → (Nat → Pl) → (Nat → Nat) → Nat → (Nat → Pl) × Nat
  | 0, L, _, a => (L, a)
  | N + 1, L, l, a => if (rdF K F f (sgS K F f L l) (L, l, 0) 64).2.2 = 0 then ((rdF K F f (sgS K F f L l) (L, l, 0) 64).1, a) else frS K F f N (rdF K F f (sgS K F f L l) (L, l, 0) 64).1 (rdF K F f (sgS K F f L l) (L, l, 0) 64).2.1 (a + (rdF K F f (sgS K F f L l) (L, l, 0) 64).2.2)
theorem rd1_n {K : SK} {F : SF} {f : Nat} {T : Nat → Option Nat} {s : RS} {k : Nat} (h : T k = none) : rd1 K F f T s k = s := by
  unfold rd1
  rw [h]
theorem rd1_t {K : SK} {F : SF} {f : Nat} {T : Nat → Option Nat} {s : RS} {k x : Nat} (h : T k = some x) (h2 : 0 < s.2.1 (x / 8) ∧ mayB K F f s.1 k (some (x / 8, x % 8)) = true) : rd1 K F f T s k = (lyS s.1 k (some (x / 8, x % 8)), leS s.2.1 (x / 8) (s.2.1 (x / 8) - 1), s.2.2 + 1) := by
  unfold rd1
  rw [h]
  exact if_pos h2
theorem rd1_f {K : SK} {F : SF} {f : Nat} {T : Nat → Option Nat} {s : RS} {k x : Nat} (h : T k = some x) (h2 : ¬ (0 < s.2.1 (x / 8) ∧ mayB K F f s.1 k (some (x / 8, x % 8)) = true)) : rd1 K F f T s k = s := by
  unfold rd1
  rw [h]
  exact if_neg h2
theorem rdF_skip {K : SK} {F : SF} {f : Nat} {T : Nat → Option Nat} {s : RS} (a : Nat) : ∀ d, (∀ k, a ≤ k → k < a + d → T k = none) → rdF K F f T s (a + d) = rdF K F f T s a
  | 0, _ => rfl
  | d + 1, h => by
    rw [← Nat.add_assoc]
    show rd1 K F f T (rdF K F f T s (a + d)) (a + d) = _
    rw [rd1_n (h (a + d) (by omega) (by omega)), rdF_skip a d (fun k h1 h2 => h k h1 (by omega))]
theorem sg_b {K : SK} {F : SF} {f : Nat} {L : Nat → Pl} {l : Nat → Nat} {k x : Nat} (h : sgS K F f L l k = some x) : wtB F f L k = true ∧ fgS K F f L l k = 1 ∧ x < 8 * K.1 ∧ fitB K F f L l k x = true := by
  unfold sgS at h
  split at h
  · rename_i hc
    obtain ⟨h1, h2, h3, h4⟩ := sc_b _ _ h
    exact ⟨hc.1, hc.2, by omega, h3⟩
  · cases h
theorem sg_n {K : SK} {F : SF} {f : Nat} {L : Nat → Pl} {l : Nat → Nat} {k : Nat} (h : ¬ opF F f k) : sgS K F f L l k = none := if_neg (fun z => by
  have z := z.1
  unfold wtB at z
  rw [decide_eq_true_eq] at z
  exact h z.1)
theorem rd_step {K : SK} {F : SF} {f n : Nat} {o : Nat → Nat} (hE : EnO (opF F f) 64 n o) {L : Nat → Pl} {l : Nat → Nat} {s : RS} {j : Nat} (hj : j < n) : rdF K F f (sgS K F f L l) s (oN 64 n o (j + 1)) = rd1 K F f (sgS K F f L l) (rdF K F f (sgS K F f L l) s (o j)) (o j) := by
  have h1 := oN_gt hE hj
  obtain ⟨d, hd⟩ : ∃ d, oN 64 n o (j + 1) = o j + 1 + d := ⟨_, (Nat.add_sub_cancel' h1).symm⟩
  rw [hd, rdF_skip (o j + 1) d (fun k h2 h3 => sg_n (EnO_gap hE hj k h2 (by omega)))]
  rfl
theorem rd_0 {K : SK} {F : SF} {f n : Nat} {o : Nat → Nat} (hE : EnO (opF F f) 64 n o) {L : Nat → Pl} {l : Nat → Nat} {s : RS} : rdF K F f (sgS K F f L l) s (oN 64 n o 0) = s := by
  have z := rdF_skip (K := K) (F := F) (f := f) (T := sgS K F f L l) (s := s) 0 (oN 64 n o 0) (fun k _ h3 => sg_n (EnO_gap0 hE k (by omega)))
  rw [Nat.zero_add] at z
  exact z
def okR (K : SK) (F : SF) (f : Nat) (s : RS) : Prop := okLy K.1 s.1 ∧ (∀ k, s.2.1 k ≤ fS F f k) ∧ ∀ k, ¬ opF F f k → s.1 k = none
theorem rd1_ok {K : SK} {F : SF} {f : Nat} {L : Nat → Pl} {l : Nat → Nat} {s : RS} (h : okR K F f s) (k : Nat) : okR K F f (rd1 K F f (sgS K F f L l) s k) := by
  generalize hx : sgS K F f L l k = r
  rcases r with _ | x
  · rw [rd1_n hx]; exact h
  · by_cases hc : 0 < s.2.1 (x / 8) ∧ mayB K F f s.1 k (some (x / 8, x % 8)) = true
    · rw [rd1_t hx hc]
      obtain ⟨h1, h2, h3⟩ := h
      obtain ⟨g1, g2, g3, g4⟩ := sg_b hx
      refine ⟨fun j => ?_, fun j => ?_, fun j hj => ?_⟩
      · show okP K.1 (va_up s.1 k _ j)
        unfold va_up
        split
        · exact ⟨by omega, by omega⟩
        · exact h1 j
      · show va_up s.2.1 (x / 8) _ j ≤ _
        unfold va_up
        split
        · rename_i hj
          subst hj
          have := h2 (x / 8)
          omega
        · exact h2 j
      · show va_up s.1 k _ j = none
        unfold va_up
        split
        · rename_i hjk
          subst hjk
          unfold wtB at g1
          rw [decide_eq_true_eq] at g1
          exact absurd g1.1 hj
        · exact h3 j hj
    · rw [rd1_f hx hc]; exact h
theorem rdF_ok {K : SK} {F : SF} {f : Nat} {L : Nat → Pl} {l : Nat → Nat} {s : RS} (h : okR K F f s) : ∀ k, okR K F f (rdF K F f (sgS K F f L l) s k)
  | 0 => h
  | k + 1 => rd1_ok (rdF_ok h k) k
theorem rdF_hi {K : SK} {F : SF} {f : Nat} {T : Nat → Option Nat} {s : RS} : ∀ k j, k ≤ j → (rdF K F f T s k).1 j = s.1 j
  | 0, _, _ => rfl
  | k + 1, j, hj => by
    have ih := rdF_hi (K := K) (F := F) (f := f) (T := T) (s := s) k j (by omega)
    show (rd1 K F f T (rdF K F f T s k) k).1 j = _
    generalize hx : T k = r
    rcases r with _ | x
    · rw [rd1_n hx]; exact ih
    · by_cases hc : 0 < (rdF K F f T s k).2.1 (x / 8) ∧ mayB K F f (rdF K F f T s k).1 k (some (x / 8, x % 8)) = true
      · rw [rd1_t hx hc]
        exact (if_neg (by omega)).trans ih
      · rw [rd1_f hx hc]; exact ih
theorem cnB_e {g g' : Nat → Bool} : ∀ d t, (∀ j, t ≤ j → j < t + d → g j = g' j) → cnB g t d = cnB g' t d
  | 0, _, _ => rfl
  | d + 1, t, h => by
    show (if g t = true then 1 else 0) + cnB g (t + 1) d = (if g' t = true then 1 else 0) + cnB g' (t + 1) d
    rw [h t (by omega) (by omega), cnB_e d (t + 1) (fun j h1 h2 => h j (by omega) (by omega))]
theorem cnB_up {g g' : Nat → Bool} {k : Nat} (h1 : g k = true) (h2 : g' k = false) (h3 : ∀ j, j ≠ k → g' j = g j) : ∀ d t, t ≤ k → k < t + d → cnB g' t d + 1 = cnB g t d
  | 0, t, h4, h5 => by omega
  | d + 1, t, h4, h5 => by
    show (if g' t = true then 1 else 0) + cnB g' (t + 1) d + 1 = (if g t = true then 1 else 0) + cnB g (t + 1) d
    by_cases z : t = k
    · subst z
      rw [h1, h2, if_pos rfl, if_neg (by decide), cnB_e (g := g') (g' := g) d (t + 1) (fun j hj _ => h3 j (by omega))]
      omega
    · rw [h3 t z]
      have := cnB_up h1 h2 h3 d (t + 1) (by omega) (by omega)
      omega
theorem rdF_c {K : SK} {F : SF} {f : Nat} {L : Nat → Pl} {l : Nat → Nat} : ∀ k, k ≤ 64 → cnB (wtB F f (rdF K F f (sgS K F f L l) (L, l, 0) k).1) 0 64 + (rdF K F f (sgS K F f L l) (L, l, 0) k).2.2 = cnB (wtB F f L) 0 64
  | 0, _ => Nat.add_zero _
  | k + 1, hk => by
    have ih := rdF_c (K := K) (F := F) (f := f) (L := L) (l := l) k (by omega)
    have hi := rdF_hi (K := K) (F := F) (f := f) (T := sgS K F f L l) (s := (L, l, 0)) k k (Nat.le_refl _)
    show cnB (wtB F f (rd1 K F f (sgS K F f L l) (rdF K F f (sgS K F f L l) (L, l, 0) k) k).1) 0 64 + (rd1 K F f (sgS K F f L l) (rdF K F f (sgS K F f L l) (L, l, 0) k) k).2.2 = _
    generalize rdF K F f (sgS K F f L l) (L, l, 0) k = s at ih hi
    generalize hx : sgS K F f L l k = r
    rcases r with _ | x
    · rw [rd1_n hx]; exact ih
    · by_cases hc : 0 < s.2.1 (x / 8) ∧ mayB K F f s.1 k (some (x / 8, x % 8)) = true
      · rw [rd1_t hx hc]
        obtain ⟨g1, g2, g3, g4⟩ := sg_b hx
        have hw : wtB F f s.1 k = true := by
          unfold wtB at g1 ⊢
          rw [hi]
          exact g1
        have z := cnB_up (g := wtB F f s.1) (g' := wtB F f (lyS s.1 k (some (x / 8, x % 8)))) hw (by
          unfold wtB lyS va_up
          rw [if_pos rfl, decide_eq_false_iff_not]
          rintro ⟨_, q⟩
          cases q) (fun j hj => by
          unfold wtB lyS va_up
          rw [if_neg hj]) 64 0 (by omega) (by omega)
        show cnB (wtB F f (lyS s.1 k (some (x / 8, x % 8)))) 0 64 + (s.2.2 + 1) = _
        omega
      · rw [rd1_f hx hc]; exact ih
theorem nI_ex (v : Int32) : ∃ c : Nat, v = nI c := ⟨v.toUInt32.toNat, by
  show v = Int32.ofNat v.toUInt32.toNat
  apply Int32.toBitVec.inj
  show v.toBitVec = BitVec.ofNat 32 v.toBitVec.toNat
  simp⟩
def rvM (K : SK) (F : SF) (f n : Nat) (o : Nat → Nat) (L : Nat → Pl) (l : Nat → Nat) (h h1 : mj_H) : Prop := Fr (WSM f) h h1 ∧ SM K.1 F f L l h1 ∧ OM F f n o h1 ∧ (∀ k, k < 64 → mI h1 67 (64 * f + k) = 0) ∧ mI h1 38 41 = nI (fE F)
theorem rvM_t {K : SK} {F : SF} {f n : Nat} {o : Nat → Nat} {L : Nat → Pl} {l : Nat → Nat} {h h1 : mj_H} (hs : HT h) (z : rvM K F f n o L l h h1) (j : Nat) (v : Int32) : rvM K F f n o L l h (wI h1 73 j v) := by
  obtain ⟨a1, a2, a3, a4, a5⟩ := z
  have hs1 : HT h1 := a1.ht hs (WSM_st f)
  have fr : Fr (fun a k => a = 73) h1 (wI h1 73 j v) := Fr.rf.sI rfl
  refine ⟨a1.sI (by unfold WSM; omega), SM_fr hs1 fr (by omega) (by omega) (by omega) a2, OM_fr hs1 fr (by omega) (by omega) a3, fun k hk => ?_, ?_⟩
  · rw [mI_oth (Or.inl (by decide))]; exact a4 k hk
  · rw [mI_oth (Or.inl (by decide))]; exact a5
theorem rvM_l {K : SK} {F : SF} {f n : Nat} {o : Nat → Nat} {L L' : Nat → Pl} {l l' : Nat → Nat} {h h1 h2 : mj_H} (hs : HT h) (z : rvM K F f n o L l h h1) (hM : SM K.1 F f L' l' h2) (fr : Fr Wly h1 h2) : rvM K F f n o L' l' h h2 := by
  obtain ⟨a1, a2, a3, a4, a5⟩ := z
  have hs1 : HT h1 := a1.ht hs (WSM_st f)
  have hn := HT_n hs1
  refine ⟨a1.tr (fr.mono Wly_sr), hM, OM_fr hs1 fr (by unfold Wly; omega) (by unfold Wly; omega) a3, fun k hk => ?_, ?_⟩
  · rw [fr.I (by omega) (by unfold Wly; omega)]; exact a4 k hk
  · rw [fr.I (by omega) (by unfold Wly; omega)]; exact a5
theorem rm_forced_L1 {S : mj_S} {Q : Option Value → mj_H → Prop} {h : mj_H} (hs : HT h) {K : SK} (hK : KM K h) (hO : KO K) {F : SF} (hFO : FO K.1 F) {f : Nat} (hf : f < F.1) (hF : FT1 F f h) {n : Nat} {o : Nat → Nat} {L : Nat → Pl} {l : Nat → Nat} (hok : okR K F f (L, l, 0)) {b : Bool} {q : Nat}
    (kx : ∀ h1 : mj_H, (rvM K F f n o L l h h1 ∧ ∀ i, i < n → mI h1 73 i = J (vN ((sgS K F f L l) (o i)))) → Ex S rm_forced 100 [some (.ref 38), some (.int (nI (f))), some (.int (bI (b))), some (.int (nI (q))), some (.int (0)), some (.int (nI (n))), none] [] h1 Q) : ∀ d k : Nat, k + d = n → ∀ h1 : mj_H, (rvM K F f n o L l h h1 ∧ ∀ i, i < k → mI h1 73 i = J (vN ((sgS K F f L l) (o i)))) → Ex S rm_forced 32 [some (.ref 38), some (.int (nI (f))), some (.int (bI (b))), some (.int (nI (q))), some (.int (0)), some (.int (nI (k))), none] [] h1 Q := by
  have hn := HT_n hs
  have hk40 := hO.1
  have hf6 := hFO.1
  have hl : ∀ k, k < 40 → l k < 2147483648 := fun k hk => by have h1 := hok.2.1 k; have h1 : l k ≤ fS F f k := h1; have := ((hFO.2.2 f hf).2.2 k hk).1; omega
  intro d
  induction d with
  | zero =>
    intro k hkk h1 hI
    obtain rfl : n = k := by omega
    have hs1 : HT h1 := hI.1.1.ht hs (WSM_st f)
    have hK1 := KM_sr hs hI.1.1 hK
    have hF1 := FT1_sr hs hI.1.1 hF
    have hn1 := hI.1.1.le
    have hE := hI.1.2.2.1
    have hn64 := EnO_le hE.1
    refine Ex_iload d_rm_forced_32 rfl ?_
    refine Ex_aload_n d_rm_forced_34 rfl ?_
    refine Ex_getIE (y := (nI (n))) d_rm_forced_35 pf_rm_307 rfl (t_38 hs1) hE.2.1 ?_
    refine Ex_icmp_geN (n) (n) 100 d_rm_forced_38 rfl rfl rfl (by omega) (by omega) (fun hc38 => ?_) (fun hc38 => ?_)
    · exact kx h1 hI
    · exfalso; omega
  | succ d ih =>
    intro k hkk h1 hI
    have hs1 : HT h1 := hI.1.1.ht hs (WSM_st f)
    have hK1 := KM_sr hs hI.1.1 hK
    have hF1 := FT1_sr hs hI.1.1 hF
    have hn1 := hI.1.1.le
    have hE := hI.1.2.2.1
    have hn64 := EnO_le hE.1
    obtain ⟨ho1, ho2⟩ := hE.1.1 k (by omega)
    refine Ex_iload d_rm_forced_32 rfl ?_
    refine Ex_aload_n d_rm_forced_34 rfl ?_
    refine Ex_getIE (y := (nI (n))) d_rm_forced_35 pf_rm_307 rfl (t_38 hs1) hE.2.1 ?_
    refine Ex_icmp_geN (k) (n) 100 d_rm_forced_38 rfl rfl rfl (by omega) (by omega) (fun hc38 => ?_) (fun hc38 => ?_)
    · exfalso; omega
    · refine Ex_aload_n d_rm_forced_41 rfl ?_
      refine Ex_getR (v := .ref 73) d_rm_forced_42 pf_rm_115 rfl (t_38 hs1) (r_38_48 hs1) ?_
      refine Ex_iload d_rm_forced_45 rfl ?_
      refine Ex_aload_n d_rm_forced_47 rfl ?_
      refine Ex_getR (v := .ref 69) d_rm_forced_48 pf_rm_103 rfl (t_38 hs1) (r_38_44 hs1) ?_
      refine Ex_aload_n d_rm_forced_51 rfl ?_
      refine Ex_getR (v := .ref 71) d_rm_forced_52 pf_rm_109 rfl (t_38 hs1) (r_38_46 hs1) ?_
      refine Ex_iload d_rm_forced_55 rfl ?_
      refine Ex_ialoadN (a := k) (y := (nI (o k))) d_rm_forced_57 (t_71 hs1) rfl (by omega) (by decide) (hE.2.2 k (by omega)) ?_
      refine Ex_ialoadN (a := o k) (y := (eP (L (o k)))) d_rm_forced_58 (t_69 hs1) rfl (by omega) (by decide) (hI.1.2.1.2.1 _ ho1 ho2.1) ?_
      refine Ex_if_ne 92 d_rm_forced_59 rfl (fun hc59 => ?_) (fun hc59 => ?_)
      · refine Ex_iconst d_rm_forced_92 ic_m1 ?_
        refine Ex_iastoreN (a := k) d_rm_forced_93 (t_73 hs1) rfl (by omega) (by decide) ?_
        refine Ex_iincN (k) 1 [some (.ref 38), some (.int (nI (f))), some (.int (bI (b))), some (.int (nI (q))), some (.int (0)), some (.int (nI (k + 1))), none] d_rm_forced_94 rfl rfl rfl rfl ?_
        refine Ex_goto 32 d_rm_forced_97 rfl ?_
        refine ih (k + 1) (by omega) _ ⟨rvM_t hs hI.1 k _, fun i hi => ?_⟩
        by_cases z : i = k
        · rw [z, mI_self]
          rw [show (sgS K F f L l) (o k) = none from if_neg (fun w => by first | exact hc74 w.2 | (have w1 := w.1; unfold wtB at w1; rw [decide_eq_true_eq] at w1; exact hc59 ((eP_z hO.1 (hok.1 _)).mpr w1.2)))]
          rfl
        · rw [mI_oth (Or.inr z)]; exact hI.2 i (by omega)
      · refine Ex_aload_n d_rm_forced_62 rfl ?_
        refine Ex_aload_n d_rm_forced_63 rfl ?_
        refine Ex_getR (v := .ref 71) d_rm_forced_64 pf_rm_109 rfl (t_38 hs1) (r_38_46 hs1) ?_
        refine Ex_iload d_rm_forced_67 rfl ?_
        refine Ex_ialoadN (a := k) (y := (nI (o k))) d_rm_forced_69 (t_71 hs1) rfl (by omega) (by decide) (hE.2.2 k (by omega)) ?_
        refine Ex_pV1 (v := .int (nI (fgS K F f L l (o k)))) d_rm_forced_70 pk_rm_forced_310 (t_38 hs1) (rm_fitting_s hs1 hK1 hO hFO hf hF1 hok.1 hI.1.2.1 hl (k := o k) ho1) ?_
        refine Ex_iconst d_rm_forced_73 ic_1 ?_
        refine Ex_icmp_neN (fgS K F f L l (o k)) (1) 92 d_rm_forced_74 rfl rfl rfl (by first | omega | (have := fgS_le (K := K) (F := F) (f := f) (L := L) (l := l) (k := o k); omega)) (by first | omega | (have := fgS_le (K := K) (F := F) (f := f) (L := L) (l := l) (k := o k); omega)) (fun hc74 => ?_) (fun hc74 => ?_)
        · refine Ex_iconst d_rm_forced_92 ic_m1 ?_
          refine Ex_iastoreN (a := k) d_rm_forced_93 (t_73 hs1) rfl (by omega) (by decide) ?_
          refine Ex_iincN (k) 1 [some (.ref 38), some (.int (nI (f))), some (.int (bI (b))), some (.int (nI (q))), some (.int (0)), some (.int (nI (k + 1))), none] d_rm_forced_94 rfl rfl rfl rfl ?_
          refine Ex_goto 32 d_rm_forced_97 rfl ?_
          refine ih (k + 1) (by omega) _ ⟨rvM_t hs hI.1 k _, fun i hi => ?_⟩
          by_cases z : i = k
          · rw [z, mI_self]
            rw [show (sgS K F f L l) (o k) = none from if_neg (fun w => by first | exact hc74 w.2 | (have w1 := w.1; unfold wtB at w1; rw [decide_eq_true_eq] at w1; exact hc59 ((eP_z hO.1 (hok.1 _)).mpr w1.2)))]
            rfl
          · rw [mI_oth (Or.inr z)]; exact hI.2 i (by omega)
        · refine Ex_aload_n d_rm_forced_77 rfl ?_
          refine Ex_aload_n d_rm_forced_78 rfl ?_
          refine Ex_getR (v := .ref 71) d_rm_forced_79 pf_rm_109 rfl (t_38 hs1) (r_38_46 hs1) ?_
          refine Ex_iload d_rm_forced_82 rfl ?_
          refine Ex_ialoadN (a := k) (y := (nI (o k))) d_rm_forced_84 (t_71 hs1) rfl (by omega) (by decide) (hE.2.2 k (by omega)) ?_
          refine Ex_iconst d_rm_forced_85 ic_0 ?_
          refine Ex_pV2 (v := .int (J (vN (nfS K F f L l (o k) 0)))) d_rm_forced_86 pk_rm_forced_304 (t_38 hs1) (rm_nextFitting_s hs1 hK1 hO hFO hf hF1 hok.1 hI.1.2.1 hl (k := o k) ho1 (t := 0) (by omega)) ?_
          refine Ex_goto 93 d_rm_forced_89 rfl ?_
          refine Ex_iastoreN (a := k) d_rm_forced_93 (t_73 hs1) rfl (by omega) (by decide) ?_
          refine Ex_iincN (k) 1 [some (.ref 38), some (.int (nI (f))), some (.int (bI (b))), some (.int (nI (q))), some (.int (0)), some (.int (nI (k + 1))), none] d_rm_forced_94 rfl rfl rfl rfl ?_
          refine Ex_goto 32 d_rm_forced_97 rfl ?_
          refine ih (k + 1) (by omega) _ ⟨rvM_t hs hI.1 k _, fun i hi => ?_⟩
          by_cases z : i = k
          · rw [z, mI_self]
            have hw : wtB F f L (o k) = true := by unfold wtB; rw [decide_eq_true_eq]; exact ⟨ho2, (eP_z hO.1 (hok.1 _)).mp hc59⟩
            rw [show (sgS K F f L l) (o k) = nfS K F f L l (o k) 0 from if_pos ⟨hw, by omega⟩]
          · rw [mI_oth (Or.inr z)]; exact hI.2 i (by omega)
theorem rm_forced_L2 {S : mj_S} {Q : Option Value → mj_H → Prop} {h : mj_H} (hs : HT h) {K : SK} (hK : KM K h) (hO : KO K) {F : SF} (hFO : FO K.1 F) {f : Nat} (hf : f < F.1) (hF : FT1 F f h) {n : Nat} {o : Nat → Nat} {L : Nat → Pl} {l : Nat → Nat} (hok : okR K F f (L, l, 0)) {b : Bool} {q : Nat}
    (kx : ∀ h1 : mj_H, (rvM K F f n o (rdF K F f (sgS K F f L l) (L, l, 0) (oN 64 n o (n))).1 (rdF K F f (sgS K F f L l) (L, l, 0) (oN 64 n o (n))).2.1 h h1 ∧ ∀ i, i < n → mI h1 73 i = J (vN ((sgS K F f L l) (o i)))) → Ex S rm_forced 192 [some (.ref 38), some (.int (nI (f))), some (.int (bI (b))), some (.int (nI (q))), some (.int (nI ((rdF K F f (sgS K F f L l) (L, l, 0) (oN 64 n o (n))).2.2))), some (.int (nI (n))), none] [] h1 Q) : ∀ d k : Nat, k + d = n → ∀ h1 : mj_H, (rvM K F f n o (rdF K F f (sgS K F f L l) (L, l, 0) (oN 64 n o (k))).1 (rdF K F f (sgS K F f L l) (L, l, 0) (oN 64 n o (k))).2.1 h h1 ∧ ∀ i, i < n → mI h1 73 i = J (vN ((sgS K F f L l) (o i)))) → Ex S rm_forced 103 [some (.ref 38), some (.int (nI (f))), some (.int (bI (b))), some (.int (nI (q))), some (.int (nI ((rdF K F f (sgS K F f L l) (L, l, 0) (oN 64 n o (k))).2.2))), some (.int (nI (k))), none] [] h1 Q := by
  have hn := HT_n hs
  have hk40 := hO.1
  have hf6 := hFO.1
  intro d
  induction d with
  | zero =>
    intro k hkk h1 hI
    obtain rfl : n = k := by omega
    have hs1 : HT h1 := hI.1.1.ht hs (WSM_st f)
    have hK1 := KM_sr hs hI.1.1 hK
    have hF1 := FT1_sr hs hI.1.1 hF
    have hn1 := hI.1.1.le
    have hE := hI.1.2.2.1
    have hn64 := EnO_le hE.1
    refine Ex_iload d_rm_forced_103 rfl ?_
    refine Ex_aload_n d_rm_forced_105 rfl ?_
    refine Ex_getIE (y := (nI (n))) d_rm_forced_106 pf_rm_307 rfl (t_38 hs1) hE.2.1 ?_
    refine Ex_icmp_geN (n) (n) 192 d_rm_forced_109 rfl rfl rfl (by omega) (by omega) (fun hc109 => ?_) (fun hc109 => ?_)
    · exact kx h1 hI
    · exfalso; omega
  | succ d ih =>
    intro k hkk h1 hI
    have hs1 : HT h1 := hI.1.1.ht hs (WSM_st f)
    have hK1 := KM_sr hs hI.1.1 hK
    have hF1 := FT1_sr hs hI.1.1 hF
    have hn1 := hI.1.1.le
    have hE := hI.1.2.2.1
    have hn64 := EnO_le hE.1
    obtain ⟨ho1, ho2⟩ := hE.1.1 k (by omega)
    have hok' : oN 64 n o k = o k := if_pos (by omega)
    refine Ex_iload d_rm_forced_103 rfl ?_
    refine Ex_aload_n d_rm_forced_105 rfl ?_
    refine Ex_getIE (y := (nI (n))) d_rm_forced_106 pf_rm_307 rfl (t_38 hs1) hE.2.1 ?_
    refine Ex_icmp_geN (k) (n) 192 d_rm_forced_109 rfl rfl rfl (by omega) (by omega) (fun hc109 => ?_) (fun hc109 => ?_)
    · exfalso; omega
    · refine Ex_aload_n d_rm_forced_112 rfl ?_
      refine Ex_getR (v := .ref 73) d_rm_forced_113 pf_rm_115 rfl (t_38 hs1) (r_38_48 hs1) ?_
      refine Ex_iload d_rm_forced_116 rfl ?_
      refine Ex_ialoadN (a := k) (y := (J (vN ((sgS K F f L l) (o k))))) d_rm_forced_118 (t_73 hs1) rfl (by omega) (by decide) (hI.2 k (by omega)) ?_
      refine Ex_istore [some (.ref 38), some (.int (nI (f))), some (.int (bI (b))), some (.int (nI (q))), some (.int (nI ((rdF K F f (sgS K F f L l) (L, l, 0) (oN 64 n o (k))).2.2))), some (.int (nI (k))), some (.int (J (vN ((sgS K F f L l) (o k)))))] d_rm_forced_119 (Nat.le_of_ble_eq_true rfl) rfl ?_
      rw [show (rdF K F f (sgS K F f L l) (L, l, 0) (oN 64 n o (k))).2.2 = (rdF K F f (sgS K F f L l) (L, l, 0) (o k)).2.2 by rw [hok']]
      generalize hx : (sgS K F f L l) (o k) = r
      rcases r with _ | x
      · show Ex S rm_forced 121 [some (.ref 38), some (.int (nI (f))), some (.int (bI (b))), some (.int (nI (q))), some (.int (nI ((rdF K F f (sgS K F f L l) (L, l, 0) (o k)).2.2))), some (.int (nI (k))), some (.int (-1))] [] h1 _
        refine Ex_iload d_rm_forced_121 rfl ?_
        refine Ex_if_ltZ ((-1)) 186 d_rm_forced_123 rfl (by decide) (by omega) (fun hc123 => ?_) (fun hc123 => ?_)
        · refine Ex_iincN (k) 1 [some (.ref 38), some (.int (nI (f))), some (.int (bI (b))), some (.int (nI (q))), some (.int (nI ((rdF K F f (sgS K F f L l) (L, l, 0) (o k)).2.2))), some (.int (nI (k + 1))), some (.int (-1))] d_rm_forced_186 rfl rfl rfl rfl ?_
          refine Ex_goto 103 d_rm_forced_189 rfl ?_
          refine Ex_forget (ls' := [some (.ref 38), some (.int (nI (f))), some (.int (bI (b))), some (.int (nI (q))), some (.int (nI ((rdF K F f (sgS K F f L l) (L, l, 0) (o k)).2.2))), some (.int (nI (k + 1))), none]) (sub_s (sub_s (sub_s (sub_s (sub_s (sub_s (sub_n sub_0))))))) ?_
          have ih := ih (k + 1) (by omega)
          rw [rd_step hE.1 (show k < n by omega), rd1_n hx] at ih
          exact ih h1 (by rw [hok'] at hI; exact hI)
        · exact absurd hc123 (by decide)
      · obtain ⟨hx1, hx2, hx3, hx4⟩ := sg_b hx
        obtain ⟨c, hcc⟩ := nI_ex (mI h1 38 52)
        have hkk2 := rdF_ok (L := L) (l := l) hok (o k)
        have hMk : SM K.1 F f (rdF K F f (sgS K F f L l) (L, l, 0) (o k)).1 (rdF K F f (sgS K F f L l) (L, l, 0) (o k)).2.1 h1 := by have := hI.1.2.1; rw [hok'] at this; exact this
        show Ex S rm_forced 121 [some (.ref 38), some (.int (nI (f))), some (.int (bI (b))), some (.int (nI (q))), some (.int (nI ((rdF K F f (sgS K F f L l) (L, l, 0) (o k)).2.2))), some (.int (nI (k))), some (.int (J ((x : Int))))] [] h1 _
        rw [← nIJ]
        refine Ex_iload d_rm_forced_121 rfl ?_
        refine Ex_if_ltN (x) 186 d_rm_forced_123 rfl rfl (by omega) (fun hc123 => ?_) (fun hc123 => ?_)
        · exfalso; omega
        · refine Ex_aload_n d_rm_forced_126 rfl ?_
          refine Ex_getR (v := .ref 70) d_rm_forced_127 pf_rm_106 rfl (t_38 hs1) (r_38_45 hs1) ?_
          refine Ex_iload d_rm_forced_130 rfl ?_
          refine Ex_bipush d_rm_forced_132 bp_8 ?_
          refine Ex_idivN (x) (8) d_rm_forced_134 rfl rfl (by omega) (by omega) ?_
          refine Ex_ialoadN (a := x / 8) (y := (nI ((rdF K F f (sgS K F f L l) (L, l, 0) (o k)).2.1 (x / 8)))) d_rm_forced_135 (t_70 hs1) rfl (by omega) (by decide) (by have := hI.1.2.1.2.2 (x / 8) (by omega); rw [hok'] at this; exact this) ?_
          refine Ex_if_eqN ((rdF K F f (sgS K F f L l) (L, l, 0) (o k)).2.1 (x / 8)) 186 d_rm_forced_136 rfl rfl (by have h1 := hkk2.2.1 (x / 8); have := ((hFO.2.2 f hf).2.2 (x / 8) (by omega)).1; omega) (fun hc136 => ?_) (fun hc136 => ?_)
          · refine Ex_iincN (k) 1 [some (.ref 38), some (.int (nI (f))), some (.int (bI (b))), some (.int (nI (q))), some (.int (nI ((rdF K F f (sgS K F f L l) (L, l, 0) (o k)).2.2))), some (.int (nI (k + 1))), some (.int (nI (x)))] d_rm_forced_186 rfl rfl rfl rfl ?_
            refine Ex_goto 103 d_rm_forced_189 rfl ?_
            refine Ex_forget (ls' := [some (.ref 38), some (.int (nI (f))), some (.int (bI (b))), some (.int (nI (q))), some (.int (nI ((rdF K F f (sgS K F f L l) (L, l, 0) (o k)).2.2))), some (.int (nI (k + 1))), none]) (sub_s (sub_s (sub_s (sub_s (sub_s (sub_s (sub_n sub_0))))))) ?_
            have ih := ih (k + 1) (by omega)
            rw [rd_step hE.1 (show k < n by omega), rd1_f hx (fun z => by first | omega | exact absurd (z.2.symm.trans hc164) (by decide))] at ih
            exact ih h1 (by rw [hok'] at hI; exact hI)
          · refine Ex_aload_n d_rm_forced_139 rfl ?_
            refine Ex_aload_n d_rm_forced_140 rfl ?_
            refine Ex_getR (v := .ref 71) d_rm_forced_141 pf_rm_109 rfl (t_38 hs1) (r_38_46 hs1) ?_
            refine Ex_iload d_rm_forced_144 rfl ?_
            refine Ex_ialoadN (a := k) (y := (nI (o k))) d_rm_forced_146 (t_71 hs1) rfl (by omega) (by decide) (hE.2.2 k (by omega)) ?_
            refine Ex_iload d_rm_forced_147 rfl ?_
            refine Ex_bipush d_rm_forced_149 bp_8 ?_
            refine Ex_idivN (x) (8) d_rm_forced_151 rfl rfl (by omega) (by omega) ?_
            refine Ex_iload d_rm_forced_152 rfl ?_
            refine Ex_bipush d_rm_forced_154 bp_8 ?_
            refine Ex_iremN (x) (8) d_rm_forced_156 rfl rfl (by omega) (by omega) ?_
            refine Ex_iconst d_rm_forced_157 ic_0 ?_
            refine Ex_pS3 (v := .int (eP (some (x / 8, x % 8)))) d_rm_forced_158 pk_rm_forced_166 (rm_cell_s (k := x / 8) (m := x % 8) (s := 0) (by omega) (by omega) (by omega)) ?_
            refine Ex_pV2 (v := .int (bI (mayB K F f (rdF K F f (sgS K F f L l) (L, l, 0) (o k)).1 (o k) (some (x / 8, x % 8))))) d_rm_forced_161 pk_rm_forced_300 (t_38 hs1) (rm_mayLie_s hs1 hK1 hO hFO hf hF1 hkk2.1 (l := (rdF K F f (sgS K F f L l) (L, l, 0) (o k)).2.1) hMk (k := o k) ho1 (q := some (x / 8, x % 8)) ⟨by omega, by omega⟩) ?_
            refine Ex_if_neB (mayB K F f (rdF K F f (sgS K F f L l) (L, l, 0) (o k)).1 (o k) (some (x / 8, x % 8))) 170 d_rm_forced_164 rfl rfl (fun hc164 => ?_) (fun hc164 => ?_)
            · refine Ex_aload_n d_rm_forced_170 rfl ?_
              refine Ex_aload_n d_rm_forced_171 rfl ?_
              refine Ex_getR (v := .ref 71) d_rm_forced_172 pf_rm_109 rfl (t_38 hs1) (r_38_46 hs1) ?_
              refine Ex_iload d_rm_forced_175 rfl ?_
              refine Ex_ialoadN (a := k) (y := (nI (o k))) d_rm_forced_177 (t_71 hs1) rfl (by omega) (by decide) (hE.2.2 k (by omega)) ?_
              refine Ex_iload d_rm_forced_178 rfl ?_
              refine Ex_cV2 d_rm_forced_180 pk_rm_forced_348 (t_38 hs1) (rm_lay_s hs1 hK1 hO hFO hf hF1 hkk2.1 (l := (rdF K F f (sgS K F f L l) (L, l, 0) (o k)).2.1) hMk hcc (k := o k) ho1 (n := x) hx3 (by omega)) ?_
              rintro rv h2 ⟨rfl, c1, c2, c3⟩
              show Ex S rm_forced 183 [some (.ref 38), some (.int (nI (f))), some (.int (bI (b))), some (.int (nI (q))), some (.int (nI ((rdF K F f (sgS K F f L l) (L, l, 0) (o k)).2.2))), some (.int (nI (k))), some (.int (nI (x)))] [] h2 _
              refine Ex_iincN ((rdF K F f (sgS K F f L l) (L, l, 0) (o k)).2.2) 1 [some (.ref 38), some (.int (nI (f))), some (.int (bI (b))), some (.int (nI (q))), some (.int (nI (((rdF K F f (sgS K F f L l) (L, l, 0) (o k)).2.2) + 1))), some (.int (nI (k))), some (.int (nI (x)))] d_rm_forced_183 rfl rfl rfl rfl ?_
              refine Ex_iincN (k) 1 [some (.ref 38), some (.int (nI (f))), some (.int (bI (b))), some (.int (nI (q))), some (.int (nI (((rdF K F f (sgS K F f L l) (L, l, 0) (o k)).2.2) + 1))), some (.int (nI (k + 1))), some (.int (nI (x)))] d_rm_forced_186 rfl rfl rfl rfl ?_
              refine Ex_goto 103 d_rm_forced_189 rfl ?_
              refine Ex_forget (ls' := [some (.ref 38), some (.int (nI (f))), some (.int (bI (b))), some (.int (nI (q))), some (.int (nI (((rdF K F f (sgS K F f L l) (L, l, 0) (o k)).2.2) + 1))), some (.int (nI (k + 1))), none]) (sub_s (sub_s (sub_s (sub_s (sub_s (sub_s (sub_n sub_0))))))) ?_
              have ih := ih (k + 1) (by omega)
              rw [rd_step hE.1 (show k < n by omega), rd1_t hx ⟨by omega, hc164⟩] at ih
              exact ih h2 ⟨rvM_l hs hI.1 c1 c3, fun i hi => by rw [c3.I (by omega) (by unfold Wly; omega)]; exact hI.2 i hi⟩
            · refine Ex_goto 186 d_rm_forced_167 rfl ?_
              refine Ex_iincN (k) 1 [some (.ref 38), some (.int (nI (f))), some (.int (bI (b))), some (.int (nI (q))), some (.int (nI ((rdF K F f (sgS K F f L l) (L, l, 0) (o k)).2.2))), some (.int (nI (k + 1))), some (.int (nI (x)))] d_rm_forced_186 rfl rfl rfl rfl ?_
              refine Ex_goto 103 d_rm_forced_189 rfl ?_
              refine Ex_forget (ls' := [some (.ref 38), some (.int (nI (f))), some (.int (bI (b))), some (.int (nI (q))), some (.int (nI ((rdF K F f (sgS K F f L l) (L, l, 0) (o k)).2.2))), some (.int (nI (k + 1))), none]) (sub_s (sub_s (sub_s (sub_s (sub_s (sub_s (sub_n sub_0))))))) ?_
              have ih := ih (k + 1) (by omega)
              rw [rd_step hE.1 (show k < n by omega), rd1_f hx (fun z => by first | omega | exact absurd (z.2.symm.trans hc164) (by decide))] at ih
              exact ih h1 (by rw [hok'] at hI; exact hI)
