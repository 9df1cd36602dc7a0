/-! The class: forced. -/
def sgR (s : Nat) (cd : Nat → Nat) (t : Option Nat) (v : Int32) : Prop := (t = none ∧ v = -1) ∨ ∃ c, c < s ∧ t = some (cd c) ∧ v = nI c
theorem nfC_b {K : SK} {s : Nat} {cd l wn : Nat → Nat} {c0 c : Nat} (h : nfC K s cd l wn c0 = some c) : c < s ∧ gE K s cd l wn 4 c = true := by
  obtain ⟨q1, q2, q3, q4⟩ := sc_b _ _ h
  rcases Nat.lt_or_ge c s with w | w
  · exact ⟨w, q3⟩
  · rw [gE_out w] at q3; cases q3
theorem cnB_pos {g : Nat → Bool} : ∀ d t a, t ≤ a → a < t + d → g a = true → 1 ≤ cnB g t d
  | 0, t, a, h1, h2, _ => by omega
  | d + 1, t, a, h1, h2, h3 => by
    show 1 ≤ (if g t = true then 1 else 0) + cnB g (t + 1) d
    by_cases q : a = t
    · rw [← q, if_pos h3]; omega
    · have := cnB_pos d (t + 1) a (by omega) (by omega) h3
      omega
theorem cn1 {g : Nat → Bool} {N a b : Nat} (h : cnB g 0 N = 1) (ha : a < N) (hb : b < N) (ga : g a = true) (gb : g b = true) : a = b := by
  have key : ∀ a b, a < b → b < N → g a = true → g b = true → False := fun a b hab hb ga gb => by
    have z := cnB_a g b (N - b) 0
    rw [show b + (N - b) = N by omega, h] at z
    have z1 := cnB_pos b 0 a (by omega) (by omega) ga
    have z2 := cnB_pos (N - b) (0 + b) b (by omega) (by omega) gb
    omega
  rcases Nat.lt_trichotomy a b with w | w | w
  · exact (key a b w hb ga gb).elim
  · exact w
  · exact (key b a w ha gb ga).elim
theorem rd1_ext {K : SK} {F : SF} {f : Nat} {L : Nat → Pl} {l : Nat → Nat} {s : RS} (h1 : ∀ j, L j = none ∨ s.1 j = L j) (h2 : ∀ j, s.2.1 j ≤ l j) (k : Nat) : (∀ j, L j = none ∨ (rd1 K F f (sgS K F f L l) s k).1 j = L j) ∧ ∀ j, (rd1 K F f (sgS K F f L l) s k).2.1 j ≤ l j := by
  rcases hT : sgS K F f L l k with _ | x
  · rw [rd1_n hT]; exact ⟨h1, h2⟩
  · by_cases q : 0 < s.2.1 (x / 8) ∧ mayB K F f s.1 k (some (x / 8, x % 8)) = true
    · rw [rd1_t hT q]
      refine ⟨fun j => ?_, fun j => ?_⟩
      · by_cases r : j = k
        · rw [r]; exact Or.inl (wt_o (sg_b hT).1).2
        · refine (h1 j).imp id (fun z => ?_)
          show lyS s.1 k _ j = L j
          unfold lyS va_up
          rw [if_neg r]; exact z
      · show leS s.2.1 (x / 8) (s.2.1 (x / 8) - 1) j ≤ l j
        by_cases r : j = x / 8
        · rw [r, leS_u]; have := h2 (x / 8); omega
        · rw [leS_o r]; exact h2 j
    · rw [rd1_f hT q]; exact ⟨h1, h2⟩
theorem rdF_ext {K : SK} {F : SF} {f : Nat} {L : Nat → Pl} {l : Nat → Nat} : ∀ k, (∀ j, L j = none ∨ (rdF K F f (sgS K F f L l) (L, l, 0) k).1 j = L j) ∧ ∀ j, (rdF K F f (sgS K F f L l) (L, l, 0) k).2.1 j ≤ l j
  | 0 => ⟨fun _ => Or.inr rfl, fun _ => Nat.le_refl _⟩
  | k + 1 => rd1_ext (rdF_ext k).1 (rdF_ext k).2 k
theorem wn_ext {K : SK} {F : SF} {f : Nat} {L L' : Nat → Pl} (h : ∀ j, L j = none ∨ L' j = L j) {k e c : Nat} (z : wkB (wnS K F f L' k e) c) : wkB (wnS K F f L k e) c := by
  unfold wnS lyD at z ⊢
  by_cases q : 0 ≤ bsd F f k e
  · rw [if_pos q] at z ⊢
    unfold lyK at z ⊢
    match hT : fT F f (bsd F f k e).toNat with
    | some (some r) => rw [hT] at z; exact z
    | some none => exact Or.inl rfl
    | none =>
      rw [hT] at z
      dsimp only at z ⊢
      rcases h (bsd F f k e).toNat with w | w
      · rw [w]; exact Or.inl rfl
      · rw [← w]; exact z
  · rw [if_neg q]; exact Or.inl rfl
theorem fit_ext {K : SK} {F : SF} {f : Nat} {L L' : Nat → Pl} {l l' : Nat → Nat} (h : ∀ j, L j = none ∨ L' j = L j) (hl : ∀ j, l' j ≤ l j) {k n : Nat} (z : fitB K F f L' l' k n = true) : fitB K F f L l k n = true := by
  rw [fitB_iff] at z ⊢
  refine ⟨Nat.lt_of_lt_of_le z.1 (hl _), z.2.1, ?_⟩
  have z3 := z.2.2
  rw [may_w] at z3 ⊢
  exact fun e he => wn_ext h (z3 e he)
theorem rd1_z {K : SK} {F : SF} {f : Nat} {T : Nat → Option Nat} {s : RS} {k : Nat} : rd1 K F f T s k = s ∨ (rd1 K F f T s k).2.2 = s.2.2 + 1 := by
  rcases hT : T k with _ | x
  · exact Or.inl (rd1_n hT)
  · by_cases q : 0 < s.2.1 (x / 8) ∧ mayB K F f s.1 k (some (x / 8, x % 8)) = true
    · rw [rd1_t hT q]; exact Or.inr rfl
    · exact Or.inl (rd1_f hT q)
theorem rdF_mn {K : SK} {F : SF} {f : Nat} {T : Nat → Option Nat} {s : RS} : ∀ k, rdF K F f T s k = s ∨ s.2.2 < (rdF K F f T s k).2.2
  | 0 => Or.inl rfl
  | k + 1 => by
    show rd1 K F f T (rdF K F f T s k) k = s ∨ s.2.2 < (rd1 K F f T (rdF K F f T s k) k).2.2
    rcases rdF_mn (T := T) (s := s) k with w | w
    · rw [w]
      rcases rd1_z (T := T) (s := s) (k := k) with q | q
      · exact Or.inl q
      · exact Or.inr (by omega)
    · rcases rd1_z (T := T) (s := rdF K F f T s k) (k := k) with q | q
      · rw [q]; exact Or.inr w
      · exact Or.inr (by omega)
theorem nf_one {K : SK} (hO : KO K) {F : SF} {f s : Nat} {cd : Nat → Nat} (hE : EnO (okN K F f) (8 * K.1) s cd) {L : Nat → Pl} {l : Nat → Nat} {k c : Nat} (hc : c < s) (hT : sgS K F f L l k = some (cd c)) {L' : Nat → Pl} {l' : Nat → Nat} (h : ∀ j, L j = none ∨ L' j = L j) (hl : ∀ j, l' j ≤ l j) : (nfC K s cd l' (wnS K F f L' k) 0 = some c ∧ 0 < l' (cd c / 8) ∧ mayB K F f L' k (some (cd c / 8, cd c % 8)) = true) ∨ (nfC K s cd l' (wnS K F f L' k) 0 = none ∧ ¬ (0 < l' (cd c / 8) ∧ mayB K F f L' k (some (cd c / 8, cd c % 8)) = true)) := by
  have hs := EnO_le hE
  have h40 := hO.1
  obtain ⟨g1, g2, g3, g4⟩ := sg_b hT
  rcases hr : nfC K s cd l' (wnS K F f L' k) 0 with _ | x
  · refine Or.inr ⟨rfl, fun z => ?_⟩
    refine sc_n _ _ hr c (Nat.zero_le _) (by omega) ?_
    rw [gE_fit hE hc, fitB_iff]
    exact ⟨z.1, (hE.1 c hc).2.2, z.2⟩
  · obtain ⟨w1, w2⟩ := nfC_b hr
    rw [gE_fit hE w1] at w2
    have e1 := cn1 g2 (hE.1 x w1).1 g3 (fit_ext h hl w2) g4
    have e2 : x = c := by
      rcases Nat.lt_trichotomy x c with q | q | q
      · have := hE.2.1 x c q hc; omega
      · exact q
      · have := hE.2.1 c x q w1; omega
    rw [e2] at w2 ⊢
    rw [fitB_iff] at w2
    exact Or.inl ⟨rfl, w2.1, w2.2.2⟩
def Wfo (a k : Nat) : Prop := a = 11 ∨ (13 ≤ a ∧ a ≤ 17)
theorem Wfo_st : ∀ q ∈ statR, ¬ Wfo q.1 q.2.1 := by
  have h2 : ∀ q ∈ statR, ¬ (q.1 = 11 ∨ (13 ≤ q.1 ∧ q.1 ≤ 17)) := by decide
  exact h2
theorem Wfo_B : ∀ a k, Wfo a k → WBo a k := by intro a k; unfold Wfo WBo; omega
def W17 (a k : Nat) : Prop := a = 17
theorem W17_st : ∀ q ∈ statR, ¬ W17 q.1 q.2.1 := by
  have h2 : ∀ q ∈ statR, ¬ (q.1 = 17) := by decide
  exact h2
theorem jm1 : (-1 : Int32) = J (((0 : Nat) : Int) - 1) := by decide
theorem bo_forceRound_L1 {S : mj_S} {Q : Option Value → mj_H → Prop} {h : mj_H} (hs : HT h) {K : SK} (hK : KC K h) (hO : KO K) {F : SF} (hFO : FO K.1 F) {f : Nat} (hf : f < F.1) {s : Nat} {cd : Nat → Nat} {L : Nat → Pl} {l : Nat → Nat} (hok : okR K F f (L, l, 0)) (hZ : BS K F f s cd L l h)
    (kx : ∀ h1 : mj_H, (Fr W17 h h1 ∧ ∀ j, j < 64 → sgR s cd (sgS K F f L l j) (mI h1 17 j)) → Ex S bo_forceRound 48 [some (.ref 7), some (.int (nI (64))), none] [] h1 Q) : ∀ d k : Nat, k + d = 64 → ∀ h1 : mj_H, (Fr W17 h h1 ∧ ∀ j, j < k → sgR s cd (sgS K F f L l j) (mI h1 17 j)) → Ex S bo_forceRound 2 [some (.ref 7), some (.int (nI (k))), none] [] h1 Q := by
  intro d
  induction d with
  | zero =>
    intro k hkk h1 hI
    obtain rfl : 64 = k := by omega
    have hn4 := HT_n hs
    have hk40 := hO.1
    have hs1 := hI.1.ht hs W17_st
    refine Ex_iload_n d_bo_forceRound_2 rfl ?_
    refine Ex_bipush d_bo_forceRound_3 bp_64 ?_
    refine Ex_icmp_geN (64) (64) 48 d_bo_forceRound_5 rfl rfl rfl (by omega) (by omega) (fun hc5 => ?_) (fun hc5 => ?_)
    · exact kx h1 hI
    · exfalso; omega
  | succ d ih =>
    intro k hkk h1 hI
    have hn4 := HT_n hs
    have hk40 := hO.1
    have hs1 := hI.1.ht hs W17_st
    have hZ1 : BS K F f s cd L l h1 := BS_fr hs hI.1 (by unfold W17; omega) hZ
    have hfk : ∀ k, fgS K F f L l k ≤ 320 := fun k => Nat.le_trans fgS_le (by omega)
    refine Ex_iload_n d_bo_forceRound_2 rfl ?_
    refine Ex_bipush d_bo_forceRound_3 bp_64 ?_
    refine Ex_icmp_geN (k) (64) 48 d_bo_forceRound_5 rfl rfl rfl (by omega) (by omega) (fun hc5 => ?_) (fun hc5 => ?_)
    · exfalso; omega
    · refine Ex_aload_n d_bo_forceRound_8 rfl ?_
      refine Ex_getR (v := .ref 17) d_bo_forceRound_9 pf_bo_38 rfl (t_7 hs1) (r_7_10 hs1) ?_
      refine Ex_iload_n d_bo_forceRound_12 rfl ?_
      refine Ex_aload_n d_bo_forceRound_13 rfl ?_
      refine Ex_iload_n d_bo_forceRound_14 rfl ?_
      refine Ex_pV1 (v := .int (bI (wtB F f L k))) d_bo_forceRound_15 pk_bo_forceRound_93 (t_7 hs1) (bo_isWaiting_s hs1 hk40 hok.1 hZ1.1.2.1 (by omega)) ?_
      refine Ex_if_eqB (wtB F f L k) 40 d_bo_forceRound_18 rfl rfl (fun hc18 => ?_) (fun hc18 => ?_)
      · refine Ex_iconst d_bo_forceRound_40 ic_m1 ?_
        refine Ex_iastoreN (a := k) d_bo_forceRound_41 (t_17 hs1) rfl (by omega) (by decide) ?_
        refine Ex_iincN (k) 1 [some (.ref 7), some (.int (nI (k + 1))), none] d_bo_forceRound_42 rfl rfl rfl rfl ?_
        refine Ex_goto 2 d_bo_forceRound_45 rfl ?_
        refine ih (k + 1) (by omega) _ ⟨hI.1.sI rfl, fun j hj => ?_⟩
        by_cases q : j = k
        · rw [q, mI_self]
          refine Or.inl ⟨if_neg (fun z => ?_), rfl⟩
          first | exact absurd (z.1.symm.trans hc18) (by decide) | exact hc28 z.2
        · rw [mI_oth (Or.inr q)]; exact hI.2 j (by omega)
      · refine Ex_aload_n d_bo_forceRound_21 rfl ?_
        refine Ex_getR (v := .ref 14) d_bo_forceRound_22 pf_bo_24 rfl (t_7 hs1) (r_7_7 hs1) ?_
        refine Ex_iload_n d_bo_forceRound_25 rfl ?_
        refine Ex_ialoadN (a := k) (y := (nI (fgS K F f L l k))) d_bo_forceRound_26 (t_14 hs1) rfl (by omega) (by decide) (BS_fg hO hok.2.1 hZ1 k (by omega) hc18) ?_
        refine Ex_iconst d_bo_forceRound_27 ic_1 ?_
        refine Ex_icmp_neN (fgS K F f L l k) (1) 40 d_bo_forceRound_28 rfl rfl rfl (by have := hfk k; omega) (by have := hfk k; omega) (fun hc28 => ?_) (fun hc28 => ?_)
        · refine Ex_iconst d_bo_forceRound_40 ic_m1 ?_
          refine Ex_iastoreN (a := k) d_bo_forceRound_41 (t_17 hs1) rfl (by omega) (by decide) ?_
          refine Ex_iincN (k) 1 [some (.ref 7), some (.int (nI (k + 1))), none] d_bo_forceRound_42 rfl rfl rfl rfl ?_
          refine Ex_goto 2 d_bo_forceRound_45 rfl ?_
          refine ih (k + 1) (by omega) _ ⟨hI.1.sI rfl, fun j hj => ?_⟩
          by_cases q : j = k
          · rw [q, mI_self]
            refine Or.inl ⟨if_neg (fun z => ?_), rfl⟩
            first | exact absurd (z.1.symm.trans hc18) (by decide) | exact hc28 z.2
          · rw [mI_oth (Or.inr q)]; exact hI.2 j (by omega)
        · refine Ex_aload_n d_bo_forceRound_31 rfl ?_
          refine Ex_iload_n d_bo_forceRound_32 rfl ?_
          refine Ex_iconst d_bo_forceRound_33 ic_m1 ?_
          refine Ex_pV2 (v := .int (J (vN (nfC K s cd l (wnS K F f L k) 0)))) d_bo_forceRound_34 pk_bo_forceRound_136 (t_7 hs1) (show Cl S bo_fittingAfter [.ref 7, .int (nI k), .int (-1)] h1 (Pu (.int (J (vN (nfC K s cd l (wnS K F f L k) 0)))) h1) by rw [jm1]; exact bo_fittingAfter_s hs1 hZ1.1.1.2.1 hZ1.1.2.2.2.2 (by omega) (hZ1.1.2.2.1 k (by omega) (wt_o hc18).1.1) (Nat.zero_le _)) ?_
          refine Ex_goto 41 d_bo_forceRound_37 rfl ?_
          refine Ex_iastoreN (a := k) d_bo_forceRound_41 (t_17 hs1) rfl (by omega) (by decide) ?_
          refine Ex_iincN (k) 1 [some (.ref 7), some (.int (nI (k + 1))), none] d_bo_forceRound_42 rfl rfl rfl rfl ?_
          refine Ex_goto 2 d_bo_forceRound_45 rfl ?_
          refine ih (k + 1) (by omega) _ ⟨hI.1.sI rfl, fun j hj => ?_⟩
          by_cases q : j = k
          · rw [q, mI_self]
            have hsg : sgS K F f L l k = (nfC K s cd l (wnS K F f L k) 0).map cd := by
              unfold sgS
              rw [if_pos ⟨hc18, hc28⟩]
              exact nf_C hZ.1.1.1.1 hO hok.2.1 (fun c _ => ⟨fun _ => Nat.zero_le _, fun _ => Nat.zero_le _⟩)
            rw [hsg]
            rcases hr : nfC K s cd l (wnS K F f L k) 0 with _ | c
            · exact Or.inl ⟨rfl, rfl⟩
            · exact Or.inr ⟨c, (nfC_b hr).1, rfl, (nIJ c).symm⟩
          · rw [mI_oth (Or.inr q)]; exact hI.2 j (by omega)
theorem bo_forceRound_L2 {S : mj_S} {Q : Option Value → mj_H → Prop} {h : mj_H} (hs : HT h) {K : SK} (hK : KC K h) (hO : KO K) {F : SF} (hFO : FO K.1 F) {f : Nat} (hf : f < F.1) {s : Nat} {cd : Nat → Nat} {L : Nat → Pl} {l : Nat → Nat} (hok : okR K F f (L, l, 0))
    (kx : ∀ h1 : mj_H, (BS K F f s cd (rdF K F f (sgS K F f L l) (L, l, 0) 64).1 (rdF K F f (sgS K F f L l) (L, l, 0) 64).2.1 h1 ∧ (∀ j, j < 64 → sgR s cd (sgS K F f L l j) (mI h1 17 j)) ∧ Fr Wlc h h1) → Ex S bo_forceRound 103 [some (.ref 7), some (.int (nI ((rdF K F f (sgS K F f L l) (L, l, 0) 64).2.2))), some (.int (nI (64)))] [] h1 Q) : ∀ d k : Nat, k + d = 64 → ∀ h1 : mj_H, (BS K F f s cd (rdF K F f (sgS K F f L l) (L, l, 0) k).1 (rdF K F f (sgS K F f L l) (L, l, 0) k).2.1 h1 ∧ (∀ j, j < 64 → sgR s cd (sgS K F f L l j) (mI h1 17 j)) ∧ Fr Wlc h h1) → Ex S bo_forceRound 52 [some (.ref 7), some (.int (nI ((rdF K F f (sgS K F f L l) (L, l, 0) k).2.2))), some (.int (nI (k)))] [] h1 Q := by
  intro d
  induction d with
  | zero =>
    intro k hkk h1 hI
    obtain rfl : 64 = k := by omega
    have hn4 := HT_n hs
    have hk40 := hO.1
    have hs1 := hI.2.2.ht hs Wlc_st
    have hK1 := KC_B hs (hI.2.2.mono Wlc_B) hK
    refine Ex_iload_n d_bo_forceRound_52 rfl ?_
    refine Ex_bipush d_bo_forceRound_53 bp_64 ?_
    refine Ex_icmp_geN (64) (64) 103 d_bo_forceRound_55 rfl rfl rfl (by omega) (by omega) (fun hc55 => ?_) (fun hc55 => ?_)
    · exact kx h1 hI
    · exfalso; omega
  | succ d ih =>
    intro k hkk h1 hI
    have hn4 := HT_n hs
    have hk40 := hO.1
    have hs1 := hI.2.2.ht hs Wlc_st
    have hK1 := KC_B hs (hI.2.2.mono Wlc_B) hK
    have hn5 := HT_n hs1
    have hokk : okR K F f (rdF K F f (sgS K F f L l) (L, l, 0) k) := rdF_ok hok k
    have hext := rdF_ext (K := K) (F := F) (f := f) (L := L) (l := l) k
    have hhi : (rdF K F f (sgS K F f L l) (L, l, 0) k).1 k = L k := rdF_hi k k (Nat.le_refl _)
    have hcnt := rdF_c (K := K) (F := F) (f := f) (L := L) (l := l) k (by omega)
    have hcl := cnB_le (wtB F f L) 64 0
    have ih1 := ih (k + 1) (by omega)
    rw [show (rdF K F f (sgS K F f L l) (L, l, 0) (k + 1)) = rd1 K F f (sgS K F f L l) (rdF K F f (sgS K F f L l) (L, l, 0) k) k from rfl] at ih1
    generalize (rdF K F f (sgS K F f L l) (L, l, 0) k) = R at *
    rcases hI.2.1 k (by omega) with ⟨hT, hv⟩ | ⟨c, hc, hT, hv⟩
    · refine Ex_iload_n d_bo_forceRound_52 rfl ?_
      refine Ex_bipush d_bo_forceRound_53 bp_64 ?_
      refine Ex_icmp_geN (k) (64) 103 d_bo_forceRound_55 rfl rfl rfl (by omega) (by omega) (fun hc55 => ?_) (fun hc55 => ?_)
      · exfalso; omega
      · refine Ex_aload_n d_bo_forceRound_58 rfl ?_
        refine Ex_getR (v := .ref 17) d_bo_forceRound_59 pf_bo_38 rfl (t_7 hs1) (r_7_10 hs1) ?_
        refine Ex_iload_n d_bo_forceRound_62 rfl ?_
        refine Ex_ialoadN (a := k) (y := (-1 : Int32)) d_bo_forceRound_63 (t_17 hs1) rfl (by omega) (by decide) hv ?_
        refine Ex_iconst d_bo_forceRound_64 ic_m1 ?_
        refine Ex_icmp_eqZ ((-1)) ((-1)) 97 d_bo_forceRound_65 rfl (by decide) (by decide) (by omega) (by omega) (fun hc65 => ?_) (fun hc65 => ?_)
        · refine Ex_iincN (k) 1 [some (.ref 7), some (.int (nI (R.2.2))), some (.int (nI (k + 1)))] d_bo_forceRound_97 rfl rfl rfl rfl ?_
          refine Ex_goto 52 d_bo_forceRound_100 rfl ?_
          rw [rd1_n hT] at ih1
          exact ih1 h1 hI
        · exact absurd hc65 (by decide)
    · have hwt := wt_o (sg_b hT).1
      have hs320 := EnO_le hI.1.1.1.1.1
      have hfa := (show Cl S bo_fittingAfter [.ref 7, .int (nI k), .int (-1)] h1 (Pu (.int (J (vN (nfC K s cd R.2.1 (wnS K F f R.1 k) 0)))) h1) by rw [jm1]; exact bo_fittingAfter_s hs1 hI.1.1.1.2.1 hI.1.1.2.2.2.2 (by omega) (hI.1.1.2.2.1 k (by omega) hwt.1.1) (Nat.zero_le _))
      rcases nf_one hO hI.1.1.1.1.1 hc hT hext.1 hext.2 with ⟨e1, e2, e3⟩ | ⟨e1, e2⟩
      · refine Ex_iload_n d_bo_forceRound_52 rfl ?_
        refine Ex_bipush d_bo_forceRound_53 bp_64 ?_
        refine Ex_icmp_geN (k) (64) 103 d_bo_forceRound_55 rfl rfl rfl (by omega) (by omega) (fun hc55 => ?_) (fun hc55 => ?_)
        · exfalso; omega
        · refine Ex_aload_n d_bo_forceRound_58 rfl ?_
          refine Ex_getR (v := .ref 17) d_bo_forceRound_59 pf_bo_38 rfl (t_7 hs1) (r_7_10 hs1) ?_
          refine Ex_iload_n d_bo_forceRound_62 rfl ?_
          refine Ex_ialoadN (a := k) (y := (nI (c))) d_bo_forceRound_63 (t_17 hs1) rfl (by omega) (by decide) hv ?_
          refine Ex_iconst d_bo_forceRound_64 ic_m1 ?_
          refine Ex_icmp_eqZ (((c : Nat) : Int)) ((-1)) 97 d_bo_forceRound_65 rfl (nIJ _) (by decide) (by omega) (by omega) (fun hc65 => ?_) (fun hc65 => ?_)
          · exfalso; omega
          · refine Ex_aload_n d_bo_forceRound_68 rfl ?_
            refine Ex_iload_n d_bo_forceRound_69 rfl ?_
            refine Ex_iconst d_bo_forceRound_70 ic_m1 ?_
            refine Ex_pV2 (v := .int (nI (c))) d_bo_forceRound_71 pk_bo_forceRound_136 (t_7 hs1) (show Cl S bo_fittingAfter [.ref 7, .int (nI k), .int (-1)] h1 (Pu (.int (nI c)) h1) by rw [e1, show vN (some c) = (c : Int) from rfl, ← nIJ] at hfa; exact hfa) ?_
            refine Ex_aload_n d_bo_forceRound_74 rfl ?_
            refine Ex_getR (v := .ref 17) d_bo_forceRound_75 pf_bo_38 rfl (t_7 hs1) (r_7_10 hs1) ?_
            refine Ex_iload_n d_bo_forceRound_78 rfl ?_
            refine Ex_ialoadN (a := k) (y := (nI (c))) d_bo_forceRound_79 (t_17 hs1) rfl (by omega) (by decide) hv ?_
            refine Ex_icmp_neN (c) (c) 97 d_bo_forceRound_80 rfl rfl rfl (by omega) (by omega) (fun hc80 => ?_) (fun hc80 => ?_)
            · exact absurd rfl hc80
            · refine Ex_aload_n d_bo_forceRound_83 rfl ?_
              refine Ex_iload_n d_bo_forceRound_84 rfl ?_
              refine Ex_aload_n d_bo_forceRound_85 rfl ?_
              refine Ex_getR (v := .ref 17) d_bo_forceRound_86 pf_bo_38 rfl (t_7 hs1) (r_7_10 hs1) ?_
              refine Ex_iload_n d_bo_forceRound_89 rfl ?_
              refine Ex_ialoadN (a := k) (y := (nI (c))) d_bo_forceRound_90 (t_17 hs1) rfl (by omega) (by decide) hv ?_
              refine Ex_cV2 d_bo_forceRound_91 pk_bo_forceRound_139 (t_7 hs1) (bo_lay_s hs1 hK1 hO hFO hf hokk.1 hokk.2.1 hI.1 (k := k) (by omega) hwt.1 hc (hhi.trans hwt.2) e2) ?_
              rintro rv h2 ⟨rfl, w1, w2⟩
              show Ex S bo_forceRound 94 [some (.ref 7), some (.int (nI (R.2.2))), some (.int (nI (k)))] [] h2 _
              refine Ex_iincN (R.2.2) 1 [some (.ref 7), some (.int (nI (R.2.2 + 1))), some (.int (nI (k)))] d_bo_forceRound_94 rfl rfl rfl rfl ?_
              refine Ex_iincN (k) 1 [some (.ref 7), some (.int (nI (R.2.2 + 1))), some (.int (nI (k + 1)))] d_bo_forceRound_97 rfl rfl rfl rfl ?_
              refine Ex_goto 52 d_bo_forceRound_100 rfl ?_
              rw [rd1_t hT ⟨e2, e3⟩] at ih1
              refine ih1 h2 ⟨w1, fun j hj => ?_, hI.2.2.tr w2⟩
              rw [w2.I (by omega) (by unfold Wlc; omega)]
              exact hI.2.1 j hj
      · refine Ex_iload_n d_bo_forceRound_52 rfl ?_
        refine Ex_bipush d_bo_forceRound_53 bp_64 ?_
        refine Ex_icmp_geN (k) (64) 103 d_bo_forceRound_55 rfl rfl rfl (by omega) (by omega) (fun hc55 => ?_) (fun hc55 => ?_)
        · exfalso; omega
        · refine Ex_aload_n d_bo_forceRound_58 rfl ?_
          refine Ex_getR (v := .ref 17) d_bo_forceRound_59 pf_bo_38 rfl (t_7 hs1) (r_7_10 hs1) ?_
          refine Ex_iload_n d_bo_forceRound_62 rfl ?_
          refine Ex_ialoadN (a := k) (y := (nI (c))) d_bo_forceRound_63 (t_17 hs1) rfl (by omega) (by decide) hv ?_
          refine Ex_iconst d_bo_forceRound_64 ic_m1 ?_
          refine Ex_icmp_eqZ (((c : Nat) : Int)) ((-1)) 97 d_bo_forceRound_65 rfl (nIJ _) (by decide) (by omega) (by omega) (fun hc65 => ?_) (fun hc65 => ?_)
          · exfalso; omega
          · refine Ex_aload_n d_bo_forceRound_68 rfl ?_
            refine Ex_iload_n d_bo_forceRound_69 rfl ?_
            refine Ex_iconst d_bo_forceRound_70 ic_m1 ?_
            refine Ex_pV2 (v := .int (-1)) d_bo_forceRound_71 pk_bo_forceRound_136 (t_7 hs1) (by rw [e1] at hfa; exact hfa) ?_
            refine Ex_aload_n d_bo_forceRound_74 rfl ?_
            refine Ex_getR (v := .ref 17) d_bo_forceRound_75 pf_bo_38 rfl (t_7 hs1) (r_7_10 hs1) ?_
            refine Ex_iload_n d_bo_forceRound_78 rfl ?_
            refine Ex_ialoadN (a := k) (y := (nI (c))) d_bo_forceRound_79 (t_17 hs1) rfl (by omega) (by decide) hv ?_
            refine Ex_icmp_neZ ((-1)) (((c : Nat) : Int)) 97 d_bo_forceRound_80 rfl (by decide) (nIJ _) (by omega) (by omega) (fun hc80 => ?_) (fun hc80 => ?_)
            · refine Ex_iincN (k) 1 [some (.ref 7), some (.int (nI (R.2.2))), some (.int (nI (k + 1)))] d_bo_forceRound_97 rfl rfl rfl rfl ?_
              refine Ex_goto 52 d_bo_forceRound_100 rfl ?_
              rw [rd1_f hT e2] at ih1
              exact ih1 h1 hI
            · exfalso; omega
theorem bo_forceRound_s {S : mj_S} {h : mj_H} (hs : HT h) {K : SK} (hK : KC K h) (hO : KO K) {F : SF} (hFO : FO K.1 F) {f : Nat} (hf : f < F.1) {s : Nat} {cd : Nat → Nat} {L : Nat → Pl} {l : Nat → Nat} (hok : okR K F f (L, l, 0)) (hZ : BS K F f s cd L l h) : Cl S bo_forceRound [.ref 7] h (fun r h' => r = some (.int (nI (rdF K F f (sgS K F f L l) (L, l, 0) 64).2.2)) ∧ BS K F f s cd (rdF K F f (sgS K F f L l) (L, l, 0) 64).1 (rdF K F f (sgS K F f L l) (L, l, 0) 64).2.1 h' ∧ Fr Wfo h h') := by
  show Ex S bo_forceRound 0 [some (.ref 7), none, none] [] h _
  refine Ex_iconst d_bo_forceRound_0 ic_0 ?_
  refine Ex_istore_n [some (.ref 7), some (.int (0)), none] d_bo_forceRound_1 (Nat.le_of_ble_eq_true rfl) rfl ?_
  refine bo_forceRound_L1 hs hK hO hFO hf hok hZ (fun h1 hI1 => ?_) 64 0 rfl h ⟨Fr.rf, fun j hj => absurd hj (Nat.not_lt_zero _)⟩
  have hs1 := hI1.1.ht hs W17_st
  have hK1 := KC_B hs (hI1.1.mono (by intro a k; unfold W17 WBo; omega)) hK
  have hZ1 : BS K F f s cd L l h1 := BS_fr hs hI1.1 (by unfold W17; omega) hZ
  refine Ex_iconst d_bo_forceRound_48 ic_0 ?_
  refine Ex_istore_n [some (.ref 7), some (.int (0)), none] d_bo_forceRound_49 (Nat.le_of_ble_eq_true rfl) rfl ?_
  refine Ex_iconst d_bo_forceRound_50 ic_0 ?_
  refine Ex_istore_n [some (.ref 7), some (.int (0)), some (.int (0))] d_bo_forceRound_51 (Nat.le_of_ble_eq_true rfl) rfl ?_
  refine bo_forceRound_L2 hs1 hK1 hO hFO hf hok (fun h2 hI2 => ?_) 64 0 rfl h1 ⟨hZ1, hI1.2, Fr.rf⟩
  refine Ex_iload_n d_bo_forceRound_103 rfl ?_
  refine Ex_ireturn d_bo_forceRound_104 rfl ?_
  exact ⟨rfl, hI2.1, (hI1.1.mono (by intro a k; unfold W17 Wfo; omega)).tr (hI2.2.2.mono (by intro a k; unfold Wlc Wfo; omega))⟩
