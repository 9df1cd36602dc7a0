/-! THE SEARCH: what fits; the reference's lyingAt, mayLie, nextFitting, fitting. -/
abbrev inF (F : SF) (f k : Nat) : Prop := k / 8 < fR F f ∧ k % 8 < fC F f
abbrev opF (F : SF) (f k : Nat) : Prop := inF F f k ∧ fT F f k = none
def FZ (F : SF) : Prop := ∀ f k, f < F.1 → ¬ inF F f k → fT F f k = none ∧ fL F f k = none
def lyK (F : SF) (f : Nat) (L : Nat → Pl) (k : Nat) : Pl := match fT F f k with
  | some (some q) => some q
  | some none => none
  | none => L k
def lyA (F : SF) (f : Nat) (L : Nat → Pl) (i j : Int) : Pl := if 0 ≤ i ∧ 0 ≤ j ∧ i < fR F f ∧ j < fC F f then lyK F f L (8 * i.toNat + j.toNat) else none
def mayB (K : SK) (F : SF) (f : Nat) (L : Nat → Pl) (k : Nat) (q : Pl) : Bool := fitT K (plT q) (plT (lyA F f L ((k / 8 : Nat) - 1) (k % 8 : Nat))) 0 && (fitT K (plT q) (plT (lyA F f L (k / 8 : Nat) ((k % 8 : Nat) + 1))) 1 && (fitT K (plT q) (plT (lyA F f L ((k / 8 : Nat) + 1) (k % 8 : Nat))) 2 && fitT K (plT q) (plT (lyA F f L (k / 8 : Nat) ((k % 8 : Nat) - 1))) 3))
def fitB (K : SK) (F : SF) (f : Nat) (L : Nat → Pl) (l : Nat → Nat) (k n : Nat) : Bool := decide (0 < l (n / 8)) && (decide (kLie K (n / 8) (n % 8) = n % 8) && mayB K F f L k (some (n / 8, n % 8)))
def okLy (n : Nat) (L : Nat → Pl) : Prop := ∀ k, okP n (L k)
def FT1 (F : SF) (f : Nat) (h : mj_H) : Prop := (mI h 64 f = nI (fR F f) ∧ mI h 65 f = nI (fC F f)) ∧ (∀ k, k < 64 → mI h 66 (64 * f + k) = eT (fT F f k)) ∧ ∀ k, k < 40 → mI h 68 (40 * f + k) = nI (fS F f k)
def SM (n : Nat) (F : SF) (f : Nat) (L : Nat → Pl) (l : Nat → Nat) (h : mj_H) : Prop := mI h 38 42 = nI f ∧ (∀ k, k < 64 → inF F f k → mI h 69 k = eP (L k)) ∧ ∀ k, k < n → mI h 70 k = nI (l k)
theorem plT_ok {n : Nat} {p : Pl} (h : okP n p) : okT n (plT p) := by
  match p, h with
  | none, _ => exact trivial
  | some (k, m), h => exact ⟨h.1, h.2, by omega⟩
theorem lyK_ok {n : Nat} {F : SF} (hFO : FO n F) {f : Nat} (hf : f < F.1) {L : Nat → Pl} (hL : okLy n L) {k : Nat} (hk : k < 64) : okP n (lyK F f L k) := by
  have h1 := ((hFO.2.2 f hf).2.1 k hk).1
  unfold lyK
  generalize fT F f k = t at h1
  match t, h1 with
  | none, _ => exact hL k
  | some none, _ => exact trivial
  | some (some q), h1 => exact h1
theorem lyA_ok {n : Nat} {F : SF} (hFO : FO n F) {f : Nat} (hf : f < F.1) {L : Nat → Pl} (hL : okLy n L) (i j : Int) : okP n (lyA F f L i j) := by
  have h1 := (hFO.2.2 f hf).1
  unfold lyA
  split
  · exact lyK_ok hFO hf hL (by omega)
  · exact trivial
theorem lyA_f {F : SF} {f : Nat} {L : Nat → Pl} {i j : Int} (h : ¬ (0 ≤ i ∧ 0 ≤ j ∧ i < fR F f ∧ j < fC F f)) : lyA F f L i j = none := if_neg h
theorem eP_g {k m : Nat} (hk : k < 40) (hm : m < 8) : eP (some (k, m)) = eM (some (k, m, 0)) := rfl
theorem rm_lyingAt_s {S : mj_S} {h : mj_H} (hs : HT h) {K : SK} (hK : KM K h) (hO : KO K) {F : SF} (hFO : FO K.1 F) {f : Nat} (hf : f < F.1) (hF : FT1 F f h) {L : Nat → Pl} (hL : okLy K.1 L) {l : Nat → Nat} (hM : SM K.1 F f L l h) {i j : Int} (hi : -1 ≤ i ∧ i ≤ 8) (hj : -1 ≤ j ∧ j ≤ 8) : Cl S rm_lyingAt [.ref 38, .int (J (i)), .int (J (j))] h (Pu (.int (eP (lyA F f L i j))) h) := by
  show Ex S rm_lyingAt 0 [some (.ref 38), some (.int (J (i))), some (.int (J (j))), none] [] h _
  have hsh := (hFO.2.2 f hf).1
  have hf6 := hFO.1
  have hk40 := hO.1
  obtain ⟨⟨hr1, hr2⟩, hr3, hr4⟩ := hF
  refine Ex_iload_n d_rm_lyingAt_0 rfl ?_
  refine Ex_if_ltZ (i) 34 d_rm_lyingAt_1 rfl rfl (by omega) (fun hc1 => ?_) (fun hc1 => ?_)
  · refine Ex_iconst d_rm_lyingAt_34 ic_0 ?_
    refine Ex_ireturn d_rm_lyingAt_35 rfl ?_
    exact ⟨by rw [lyA_f (by omega)]; rfl, rfl⟩
  · refine Ex_iload_n d_rm_lyingAt_4 rfl ?_
    refine Ex_if_ltZ (j) 34 d_rm_lyingAt_5 rfl rfl (by omega) (fun hc5 => ?_) (fun hc5 => ?_)
    · refine Ex_iconst d_rm_lyingAt_34 ic_0 ?_
      refine Ex_ireturn d_rm_lyingAt_35 rfl ?_
      exact ⟨by rw [lyA_f (by omega)]; rfl, rfl⟩
    · refine Ex_iload_n d_rm_lyingAt_8 rfl ?_
      refine Ex_aload_n d_rm_lyingAt_9 rfl ?_
      refine Ex_getR (v := .ref 64) d_rm_lyingAt_10 pf_rm_88 rfl (t_38 hs) (r_38_35 hs) ?_
      refine Ex_aload_n d_rm_lyingAt_13 rfl ?_
      refine Ex_getIE (y := (nI (f))) d_rm_lyingAt_14 pf_rm_294 rfl (t_38 hs) hM.1 ?_
      refine Ex_ialoadN (a := f) (y := (nI (fR F f))) d_rm_lyingAt_17 (t_64 hs) rfl (by omega) (by decide) hr1 ?_
      refine Ex_icmp_geZ (i) (((fR F f : Nat) : Int)) 34 d_rm_lyingAt_18 rfl rfl (nIJ _) (by omega) (by omega) (fun hc18 => ?_) (fun hc18 => ?_)
      · refine Ex_iconst d_rm_lyingAt_34 ic_0 ?_
        refine Ex_ireturn d_rm_lyingAt_35 rfl ?_
        exact ⟨by rw [lyA_f (by omega)]; rfl, rfl⟩
      · refine Ex_iload_n d_rm_lyingAt_21 rfl ?_
        refine Ex_aload_n d_rm_lyingAt_22 rfl ?_
        refine Ex_getR (v := .ref 65) d_rm_lyingAt_23 pf_rm_91 rfl (t_38 hs) (r_38_36 hs) ?_
        refine Ex_aload_n d_rm_lyingAt_26 rfl ?_
        refine Ex_getIE (y := (nI (f))) d_rm_lyingAt_27 pf_rm_294 rfl (t_38 hs) hM.1 ?_
        refine Ex_ialoadN (a := f) (y := (nI (fC F f))) d_rm_lyingAt_30 (t_65 hs) rfl (by omega) (by decide) hr2 ?_
        refine Ex_icmp_ltZ (j) (((fC F f : Nat) : Int)) 36 d_rm_lyingAt_31 rfl rfl (nIJ _) (by omega) (by omega) (fun hc31 => ?_) (fun hc31 => ?_)
        · obtain ⟨a, rfl⟩ : ∃ a : Nat, i = (a : Int) := ⟨i.toNat, by omega⟩
          obtain ⟨b, rfl⟩ : ∃ b : Nat, j = (b : Int) := ⟨j.toNat, by omega⟩
          simp only [← nIJ]
          have hab : 8 * a + b < 64 := by omega
          have hin : inF F f (8 * a + b) := by unfold inF; omega
          have hE : lyA F f L (a : Int) (b : Int) = lyK F f L (8 * a + b) := by
            unfold lyA
            rw [if_pos (by omega), Int.toNat_natCast, Int.toNat_natCast]
          have hto := ((hFO.2.2 f hf).2.1 (8 * a + b) hab).1
          refine Ex_aload_n d_rm_lyingAt_36 rfl ?_
          refine Ex_getR (v := .ref 66) d_rm_lyingAt_37 pf_rm_94 rfl (t_38 hs) (r_38_37 hs) ?_
          refine Ex_bipush d_rm_lyingAt_40 bp_64 ?_
          refine Ex_aload_n d_rm_lyingAt_42 rfl ?_
          refine Ex_getIE (y := (nI (f))) d_rm_lyingAt_43 pf_rm_294 rfl (t_38 hs) hM.1 ?_
          refine Ex_imulN (64) (f) d_rm_lyingAt_46 rfl rfl ?_
          refine Ex_bipush d_rm_lyingAt_47 bp_8 ?_
          refine Ex_iload_n d_rm_lyingAt_49 rfl ?_
          refine Ex_imulN (8) (a) d_rm_lyingAt_50 rfl rfl ?_
          refine Ex_iaddN (64 * f) (8 * a) d_rm_lyingAt_51 rfl rfl ?_
          refine Ex_iload_n d_rm_lyingAt_52 rfl ?_
          refine Ex_iaddN ((64 * f) + (8 * a)) (b) d_rm_lyingAt_53 rfl rfl ?_
          refine Ex_ialoadN (a := ((64 * f) + (8 * a)) + b) (y := (eT (fT F f (8 * a + b)))) d_rm_lyingAt_54 (t_66 hs) rfl (by omega) (by decide) (by rw [show 64 * f + 8 * a + b = 64 * f + (8 * a + b) by omega]; exact hr3 (8 * a + b) hab) ?_
          refine Ex_istore_n [some (.ref 38), some (.int (nI (a))), some (.int (nI (b))), some (.int (eT (fT F f (8 * a + b))))] d_rm_lyingAt_55 (Nat.le_of_ble_eq_true rfl) rfl ?_
          unfold lyK at hE
          rw [hE]
          generalize fT F f (8 * a + b) = t at hto
          rcases t with _ | _ | ⟨k, m⟩
          · show Ex S rm_lyingAt 56 [some (.ref 38), some (.int (nI (a))), some (.int (nI (b))), some (.int (0))] [] h _
            refine Ex_iload_n d_rm_lyingAt_56 rfl ?_
            refine Ex_if_le 64 d_rm_lyingAt_57 rfl (fun hc57 => ?_) (fun hc57 => ?_)
            · refine Ex_iload_n d_rm_lyingAt_64 rfl ?_
              refine Ex_bipush d_rm_lyingAt_65 bp_m2 ?_
              refine Ex_icmp_ne 74 d_rm_lyingAt_67 rfl (fun hc67 => ?_) (fun hc67 => ?_)
              · refine Ex_aload_n d_rm_lyingAt_74 rfl ?_
                refine Ex_getR (v := .ref 69) d_rm_lyingAt_75 pf_rm_103 rfl (t_38 hs) (r_38_44 hs) ?_
                refine Ex_bipush d_rm_lyingAt_78 bp_8 ?_
                refine Ex_iload_n d_rm_lyingAt_80 rfl ?_
                refine Ex_imulN (8) (a) d_rm_lyingAt_81 rfl rfl ?_
                refine Ex_iload_n d_rm_lyingAt_82 rfl ?_
                refine Ex_iaddN (8 * a) (b) d_rm_lyingAt_83 rfl rfl ?_
                refine Ex_ialoadN (a := (8 * a) + b) (y := (eP (L (8 * a + b)))) d_rm_lyingAt_84 (t_69 hs) rfl (by omega) (by decide) (hM.2.1 _ hab hin) ?_
                refine Ex_ireturn d_rm_lyingAt_85 rfl ?_
                exact ⟨rfl, rfl⟩
              · exact absurd (show (0 : Int32) = -2 from hc67) (by decide)
            · exact absurd hc57 (by decide)
          · show Ex S rm_lyingAt 56 [some (.ref 38), some (.int (nI (a))), some (.int (nI (b))), some (.int (-2))] [] h _
            refine Ex_iload_n d_rm_lyingAt_56 rfl ?_
            refine Ex_if_le 64 d_rm_lyingAt_57 rfl (fun hc57 => ?_) (fun hc57 => ?_)
            · refine Ex_iload_n d_rm_lyingAt_64 rfl ?_
              refine Ex_bipush d_rm_lyingAt_65 bp_m2 ?_
              refine Ex_icmp_ne 74 d_rm_lyingAt_67 rfl (fun hc67 => ?_) (fun hc67 => ?_)
              · exact absurd rfl hc67
              · refine Ex_iconst d_rm_lyingAt_70 ic_0 ?_
                refine Ex_goto 85 d_rm_lyingAt_71 rfl ?_
                refine Ex_ireturn d_rm_lyingAt_85 rfl ?_
                exact ⟨rfl, rfl⟩
            · exact absurd hc57 (by decide)
          · show Ex S rm_lyingAt 56 [some (.ref 38), some (.int (nI (a))), some (.int (nI (b))), some (.int (eM (some (k, m, 0))))] [] h _
            refine Ex_iload_n d_rm_lyingAt_56 rfl ?_
            refine Ex_if_le 64 d_rm_lyingAt_57 rfl (fun hc57 => ?_) (fun hc57 => ?_)
            · exact absurd hc57 (by have := eP_pos (k := k) (m := m) (by have := hto.1; omega) hto.2; exact Int32.not_le.mpr this)
            · refine Ex_iload_n d_rm_lyingAt_60 rfl ?_
              refine Ex_goto 85 d_rm_lyingAt_61 rfl ?_
              refine Ex_ireturn d_rm_lyingAt_85 rfl ?_
              exact ⟨rfl, rfl⟩
        · refine Ex_iconst d_rm_lyingAt_34 ic_0 ?_
          refine Ex_ireturn d_rm_lyingAt_35 rfl ?_
          exact ⟨by rw [lyA_f (by omega)]; rfl, rfl⟩
theorem rm_mayLie_s {S : mj_S} {h : mj_H} (hs : HT h) {K : SK} (hK : KM K h) (hO : KO K) {F : SF} (hFO : FO K.1 F) {f : Nat} (hf : f < F.1) (hF : FT1 F f h) {L : Nat → Pl} (hL : okLy K.1 L) {l : Nat → Nat} (hM : SM K.1 F f L l h) {k : Nat} (hk : k < 64) {q : Pl} (hq : okP K.1 q) : Cl S rm_mayLie [.ref 38, .int (nI (k)), .int (eP q)] h (Pu (.int (bI (mayB K F f L k q))) h) := by
  show Ex S rm_mayLie 0 [some (.ref 38), some (.int (nI (k))), some (.int (eP q)), none, none] [] h _
  refine Ex_iload_n d_rm_mayLie_0 rfl ?_
  refine Ex_bipush d_rm_mayLie_1 bp_8 ?_
  refine Ex_idivN (k) (8) d_rm_mayLie_3 rfl rfl (by omega) (by omega) ?_
  refine Ex_istore_n [some (.ref 38), some (.int (nI (k))), some (.int (eP q)), some (.int (nI (k / 8))), none] d_rm_mayLie_4 (Nat.le_of_ble_eq_true rfl) rfl ?_
  refine Ex_iload_n d_rm_mayLie_5 rfl ?_
  refine Ex_bipush d_rm_mayLie_6 bp_8 ?_
  refine Ex_iremN (k) (8) d_rm_mayLie_8 rfl rfl (by omega) (by omega) ?_
  refine Ex_istore [some (.ref 38), some (.int (nI (k))), some (.int (eP q)), some (.int (nI (k / 8))), some (.int (nI (k % 8)))] d_rm_mayLie_9 (Nat.le_of_ble_eq_true rfl) rfl ?_
  refine Ex_aload_n d_rm_mayLie_11 rfl ?_
  refine Ex_iload_n d_rm_mayLie_12 rfl ?_
  refine Ex_aload_n d_rm_mayLie_13 rfl ?_
  refine Ex_iload_n d_rm_mayLie_14 rfl ?_
  refine Ex_iconst d_rm_mayLie_15 ic_1 ?_
  refine Ex_isubZ (((k / 8 : Nat) : Int)) ((1)) d_rm_mayLie_16 (nIJ _) (by decide) ?_
  refine Ex_iload d_rm_mayLie_17 rfl ?_
  refine Ex_pV2 (v := .int (eP (lyA F f L (((k / 8 : Nat) : Int) - 1) (((k % 8 : Nat) : Int))))) d_rm_mayLie_19 pk_rm_mayLie_297 (t_38 hs) (show Cl S rm_lyingAt [.ref 38, .int (J ((((k / 8 : Nat) : Int)) - ((1)))), .int (nI (k % 8))] h _ by rw [show (J ((((k / 8 : Nat) : Int)) - ((1)))) = J (((k / 8 : Nat) : Int) - 1) by first | rfl | (rw [nIJ]; congr 1), show (nI (k % 8)) = J (((k % 8 : Nat) : Int)) by first | rfl | (rw [nIJ]; congr 1)]; exact rm_lyingAt_s hs hK hO hFO hf hF hL hM (by omega) (by omega)) ?_
  refine Ex_iconst d_rm_mayLie_22 ic_0 ?_
  refine Ex_pV3 (v := .int (bI (fitT K (plT q) (plT (lyA F f L (((k / 8 : Nat) : Int) - 1) (((k % 8 : Nat) : Int)))) 0))) d_rm_mayLie_23 pk_rm_mayLie_263 (t_38 hs) (rm_fit_s hs hK hO (plT_ok hq) (plT_ok (lyA_ok hFO hf hL (((k / 8 : Nat) : Int) - 1) (((k % 8 : Nat) : Int)))) (e := 0) (by omega)) ?_
  refine Ex_if_eqB (fitT K (plT q) (plT (lyA F f L (((k / 8 : Nat) : Int) - 1) (((k % 8 : Nat) : Int)))) 0) 87 d_rm_mayLie_26 rfl rfl (fun hc26 => ?_) (fun hc26 => ?_)
  · refine Ex_iconst d_rm_mayLie_87 ic_0 ?_
    refine Ex_zreturn d_rm_mayLie_88 rfl (by decide) ?_
    refine ⟨?_, rfl⟩
    unfold mayB
    simp only [*, Bool.true_and, Bool.false_and, Bool.and_true, Bool.and_false]
    rfl
  · refine Ex_aload_n d_rm_mayLie_29 rfl ?_
    refine Ex_iload_n d_rm_mayLie_30 rfl ?_
    refine Ex_aload_n d_rm_mayLie_31 rfl ?_
    refine Ex_iload_n d_rm_mayLie_32 rfl ?_
    refine Ex_iload d_rm_mayLie_33 rfl ?_
    refine Ex_iconst d_rm_mayLie_35 ic_1 ?_
    refine Ex_iaddN (k % 8) (1) d_rm_mayLie_36 rfl rfl ?_
    refine Ex_pV2 (v := .int (eP (lyA F f L (((k / 8 : Nat) : Int)) (((k % 8 : Nat) : Int) + 1)))) d_rm_mayLie_37 pk_rm_mayLie_297 (t_38 hs) (show Cl S rm_lyingAt [.ref 38, .int (nI (k / 8)), .int (nI ((k % 8) + 1))] h _ by rw [show (nI (k / 8)) = J (((k / 8 : Nat) : Int)) by first | rfl | (rw [nIJ]; congr 1), show (nI ((k % 8) + 1)) = J (((k % 8 : Nat) : Int) + 1) by first | rfl | (rw [nIJ]; congr 1)]; exact rm_lyingAt_s hs hK hO hFO hf hF hL hM (by omega) (by omega)) ?_
    refine Ex_iconst d_rm_mayLie_40 ic_1 ?_
    refine Ex_pV3 (v := .int (bI (fitT K (plT q) (plT (lyA F f L (((k / 8 : Nat) : Int)) (((k % 8 : Nat) : Int) + 1))) 1))) d_rm_mayLie_41 pk_rm_mayLie_263 (t_38 hs) (rm_fit_s hs hK hO (plT_ok hq) (plT_ok (lyA_ok hFO hf hL (((k / 8 : Nat) : Int)) (((k % 8 : Nat) : Int) + 1))) (e := 1) (by omega)) ?_
    refine Ex_if_eqB (fitT K (plT q) (plT (lyA F f L (((k / 8 : Nat) : Int)) (((k % 8 : Nat) : Int) + 1))) 1) 87 d_rm_mayLie_44 rfl rfl (fun hc44 => ?_) (fun hc44 => ?_)
    · refine Ex_iconst d_rm_mayLie_87 ic_0 ?_
      refine Ex_zreturn d_rm_mayLie_88 rfl (by decide) ?_
      refine ⟨?_, rfl⟩
      unfold mayB
      simp only [*, Bool.true_and, Bool.false_and, Bool.and_true, Bool.and_false]
      rfl
    · refine Ex_aload_n d_rm_mayLie_47 rfl ?_
      refine Ex_iload_n d_rm_mayLie_48 rfl ?_
      refine Ex_aload_n d_rm_mayLie_49 rfl ?_
      refine Ex_iload_n d_rm_mayLie_50 rfl ?_
      refine Ex_iconst d_rm_mayLie_51 ic_1 ?_
      refine Ex_iaddN (k / 8) (1) d_rm_mayLie_52 rfl rfl ?_
      refine Ex_iload d_rm_mayLie_53 rfl ?_
      refine Ex_pV2 (v := .int (eP (lyA F f L (((k / 8 : Nat) : Int) + 1) (((k % 8 : Nat) : Int))))) d_rm_mayLie_55 pk_rm_mayLie_297 (t_38 hs) (show Cl S rm_lyingAt [.ref 38, .int (nI ((k / 8) + 1)), .int (nI (k % 8))] h _ by rw [show (nI ((k / 8) + 1)) = J (((k / 8 : Nat) : Int) + 1) by first | rfl | (rw [nIJ]; congr 1), show (nI (k % 8)) = J (((k % 8 : Nat) : Int)) by first | rfl | (rw [nIJ]; congr 1)]; exact rm_lyingAt_s hs hK hO hFO hf hF hL hM (by omega) (by omega)) ?_
      refine Ex_iconst d_rm_mayLie_58 ic_2 ?_
      refine Ex_pV3 (v := .int (bI (fitT K (plT q) (plT (lyA F f L (((k / 8 : Nat) : Int) + 1) (((k % 8 : Nat) : Int)))) 2))) d_rm_mayLie_59 pk_rm_mayLie_263 (t_38 hs) (rm_fit_s hs hK hO (plT_ok hq) (plT_ok (lyA_ok hFO hf hL (((k / 8 : Nat) : Int) + 1) (((k % 8 : Nat) : Int)))) (e := 2) (by omega)) ?_
      refine Ex_if_eqB (fitT K (plT q) (plT (lyA F f L (((k / 8 : Nat) : Int) + 1) (((k % 8 : Nat) : Int)))) 2) 87 d_rm_mayLie_62 rfl rfl (fun hc62 => ?_) (fun hc62 => ?_)
      · refine Ex_iconst d_rm_mayLie_87 ic_0 ?_
        refine Ex_zreturn d_rm_mayLie_88 rfl (by decide) ?_
        refine ⟨?_, rfl⟩
        unfold mayB
        simp only [*, Bool.true_and, Bool.false_and, Bool.and_true, Bool.and_false]
        rfl
      · refine Ex_aload_n d_rm_mayLie_65 rfl ?_
        refine Ex_iload_n d_rm_mayLie_66 rfl ?_
        refine Ex_aload_n d_rm_mayLie_67 rfl ?_
        refine Ex_iload_n d_rm_mayLie_68 rfl ?_
        refine Ex_iload d_rm_mayLie_69 rfl ?_
        refine Ex_iconst d_rm_mayLie_71 ic_1 ?_
        refine Ex_isubZ (((k % 8 : Nat) : Int)) ((1)) d_rm_mayLie_72 (nIJ _) (by decide) ?_
        refine Ex_pV2 (v := .int (eP (lyA F f L (((k / 8 : Nat) : Int)) (((k % 8 : Nat) : Int) - 1)))) d_rm_mayLie_73 pk_rm_mayLie_297 (t_38 hs) (show Cl S rm_lyingAt [.ref 38, .int (nI (k / 8)), .int (J ((((k % 8 : Nat) : Int)) - ((1))))] h _ by rw [show (nI (k / 8)) = J (((k / 8 : Nat) : Int)) by first | rfl | (rw [nIJ]; congr 1), show (J ((((k % 8 : Nat) : Int)) - ((1)))) = J (((k % 8 : Nat) : Int) - 1) by first | rfl | (rw [nIJ]; congr 1)]; exact rm_lyingAt_s hs hK hO hFO hf hF hL hM (by omega) (by omega)) ?_
        refine Ex_iconst d_rm_mayLie_76 ic_3 ?_
        refine Ex_pV3 (v := .int (bI (fitT K (plT q) (plT (lyA F f L (((k / 8 : Nat) : Int)) (((k % 8 : Nat) : Int) - 1))) 3))) d_rm_mayLie_77 pk_rm_mayLie_263 (t_38 hs) (rm_fit_s hs hK hO (plT_ok hq) (plT_ok (lyA_ok hFO hf hL (((k / 8 : Nat) : Int)) (((k % 8 : Nat) : Int) - 1))) (e := 3) (by omega)) ?_
        refine Ex_if_eqB (fitT K (plT q) (plT (lyA F f L (((k / 8 : Nat) : Int)) (((k % 8 : Nat) : Int) - 1))) 3) 87 d_rm_mayLie_80 rfl rfl (fun hc80 => ?_) (fun hc80 => ?_)
        · refine Ex_iconst d_rm_mayLie_87 ic_0 ?_
          refine Ex_zreturn d_rm_mayLie_88 rfl (by decide) ?_
          refine ⟨?_, rfl⟩
          unfold mayB
          simp only [*, Bool.true_and, Bool.false_and, Bool.and_true, Bool.and_false]
          rfl
        · refine Ex_iconst d_rm_mayLie_83 ic_1 ?_
          refine Ex_goto 88 d_rm_mayLie_84 rfl ?_
          refine Ex_zreturn d_rm_mayLie_88 rfl (by decide) ?_
          refine ⟨?_, rfl⟩
          unfold mayB
          simp only [*, Bool.true_and, Bool.false_and, Bool.and_true, Bool.and_false]
          rfl
def vN (o : Option Nat) : Int := match o with
  | some n => (n : Int)
  | none => -1
theorem sc_b {g : Nat → Bool} : ∀ (d t : Nat) {n : Nat}, sc g d t 0 = some n → t ≤ n ∧ n < t + d ∧ g n = true ∧ ∀ m, t ≤ m → m < n → ¬ g m = true
  | 0, t, n, h => by cases h
  | d + 1, t, n, h => by
    by_cases hg : g t = true
    · rw [sc_t0 hg] at h
      obtain rfl := Option.some.inj h
      exact ⟨by omega, by omega, hg, fun m h1 h2 => by omega⟩
    · rw [sc_f hg] at h
      obtain ⟨h1, h2, h3, h4⟩ := sc_b d (t + 1) h
      refine ⟨by omega, by omega, h3, fun m h5 h6 => ?_⟩
      by_cases hm : m = t
      · rw [hm]; exact hg
      · exact h4 m (by omega) h6
theorem sc_n {g : Nat → Bool} : ∀ (d t : Nat), sc g d t 0 = none → ∀ m, t ≤ m → m < t + d → ¬ g m = true
  | 0, t, _, m, h1, h2 => by omega
  | d + 1, t, h, m, h1, h2 => by
    by_cases hg : g t = true
    · rw [sc_t0 hg] at h; cases h
    · rw [sc_f hg] at h
      by_cases hm : m = t
      · rw [hm]; exact hg
      · exact sc_n d (t + 1) h m (by omega) (by omega)
theorem cnB_0 {g : Nat → Bool} : ∀ (d t : Nat), (∀ m, t ≤ m → m < t + d → ¬ g m = true) → cnB g t d = 0
  | 0, _, _ => rfl
  | d + 1, t, h => by
    unfold cnB
    rw [if_neg (h t (by omega) (by omega)), cnB_0 d (t + 1) (fun m h1 h2 => h m (by omega) (by omega))]
theorem cnB_a (g : Nat → Bool) : ∀ (d e t : Nat), cnB g t (d + e) = cnB g t d + cnB g (t + d) e
  | 0, e, t => by rw [Nat.zero_add]; show _ = 0 + _; rw [Nat.zero_add]; rfl
  | d + 1, e, t => by
    rw [show d + 1 + e = (d + e) + 1 by omega, show cnB g t (d + e + 1) = (if g t = true then 1 else 0) + cnB g (t + 1) (d + e) from rfl, show cnB g t (d + 1) = (if g t = true then 1 else 0) + cnB g (t + 1) d from rfl]
    rw [cnB_a g d e (t + 1), show t + 1 + d = t + (d + 1) by omega]
    omega
theorem fitB_iff {K : SK} {F : SF} {f : Nat} {L : Nat → Pl} {l : Nat → Nat} {k n : Nat} : fitB K F f L l k n = true ↔ 0 < l (n / 8) ∧ kLie K (n / 8) (n % 8) = n % 8 ∧ mayB K F f L k (some (n / 8, n % 8)) = true := by
  unfold fitB
  rw [Bool.and_eq_true, Bool.and_eq_true, decide_eq_true_eq, decide_eq_true_eq]
abbrev nfS (K : SK) (F : SF) (f : Nat) (L : Nat → Pl) (l : Nat → Nat) (k t : Nat) : Option Nat := sc (fitB K F f L l k) (8 * K.1 - t) t 0
abbrev fgS (K : SK) (F : SF) (f : Nat) (L : Nat → Pl) (l : Nat → Nat) (k : Nat) : Nat := cnB (fitB K F f L l k) 0 (8 * K.1)
theorem rm_nextFitting_L {S : mj_S} {h : mj_H} (hs : HT h) {K : SK} (hK : KM K h) (hO : KO K) {F : SF} (hFO : FO K.1 F) {f : Nat} (hf : f < F.1) (hF : FT1 F f h) {L : Nat → Pl} (hL : okLy K.1 L) {l : Nat → Nat} (hM : SM K.1 F f L l h) (hl : ∀ k, k < 40 → l k < 2147483648) {k : Nat} (hk : k < 64) {t0 : Nat} : ∀ d n : Nat, n + d = 8 * K.1 → Ex S rm_nextFitting 2 [some (.ref 38), some (.int (nI (k))), some (.int (nI (t0))), some (.int (nI (n))), none] [] h (Pu (.int (J (vN (sc (fitB K F f L l k) d n 0)))) h) := by
  have hk40 := hO.1
  intro d
  induction d with
  | zero =>
    intro n hnd
    refine Ex_iload_n d_rm_nextFitting_2 rfl ?_
    refine Ex_bipush d_rm_nextFitting_3 bp_8 ?_
    refine Ex_aload_n d_rm_nextFitting_5 rfl ?_
    refine Ex_getIE (y := (nI (K.1))) d_rm_nextFitting_6 pf_rm_128 rfl (t_38 hs) hK.1 ?_
    refine Ex_imulN (8) (K.1) d_rm_nextFitting_9 rfl rfl ?_
    refine Ex_icmp_geN (n) (8 * K.1) 72 d_rm_nextFitting_10 rfl rfl rfl (by omega) (by omega) (fun hc10 => ?_) (fun hc10 => ?_)
    · refine Ex_iconst d_rm_nextFitting_72 ic_m1 ?_
      refine Ex_ireturn d_rm_nextFitting_73 rfl ?_
      exact ⟨rfl, rfl⟩
    · exfalso; omega
  | succ d ih =>
    intro n hnd
    have hl1 := hl (n / 8) (by omega)
    refine Ex_iload_n d_rm_nextFitting_2 rfl ?_
    refine Ex_bipush d_rm_nextFitting_3 bp_8 ?_
    refine Ex_aload_n d_rm_nextFitting_5 rfl ?_
    refine Ex_getIE (y := (nI (K.1))) d_rm_nextFitting_6 pf_rm_128 rfl (t_38 hs) hK.1 ?_
    refine Ex_imulN (8) (K.1) d_rm_nextFitting_9 rfl rfl ?_
    refine Ex_icmp_geN (n) (8 * K.1) 72 d_rm_nextFitting_10 rfl rfl rfl (by omega) (by omega) (fun hc10 => ?_) (fun hc10 => ?_)
    · exfalso; omega
    · refine Ex_iload_n d_rm_nextFitting_13 rfl ?_
      refine Ex_bipush d_rm_nextFitting_14 bp_8 ?_
      refine Ex_idivN (n) (8) d_rm_nextFitting_16 rfl rfl (by omega) (by omega) ?_
      refine Ex_istore [some (.ref 38), some (.int (nI (k))), some (.int (nI (t0))), some (.int (nI (n))), some (.int (nI (n / 8)))] d_rm_nextFitting_17 (Nat.le_of_ble_eq_true rfl) rfl ?_
      refine Ex_aload_n d_rm_nextFitting_19 rfl ?_
      refine Ex_getR (v := .ref 70) d_rm_nextFitting_20 pf_rm_106 rfl (t_38 hs) (r_38_45 hs) ?_
      refine Ex_iload d_rm_nextFitting_23 rfl ?_
      refine Ex_ialoadN (a := n / 8) (y := (nI (l (n / 8)))) d_rm_nextFitting_25 (t_70 hs) rfl (by omega) (by decide) (hM.2.2 _ (by omega)) ?_
      refine Ex_if_leN (l (n / 8)) 66 d_rm_nextFitting_26 rfl rfl (by omega) (fun hc26 => ?_) (fun hc26 => ?_)
      · refine Ex_iincN (n) 1 [some (.ref 38), some (.int (nI (k))), some (.int (nI (t0))), some (.int (nI (n + 1))), some (.int (nI (n / 8)))] d_rm_nextFitting_66 rfl rfl rfl rfl ?_
        refine Ex_goto 2 d_rm_nextFitting_69 rfl ?_
        refine Ex_forget (ls' := [some (.ref 38), some (.int (nI (k))), some (.int (nI (t0))), some (.int (nI (n + 1))), none]) (sub_s (sub_s (sub_s (sub_s (sub_n sub_0))))) ?_
        rw [sc_f (fun z => by have z := fitB_iff.mp z; first | omega | exact absurd (z.2.2.symm.trans hc61) (by decide))]
        exact ih (n + 1) (by omega)
      · refine Ex_aload_n d_rm_nextFitting_29 rfl ?_
        refine Ex_iload d_rm_nextFitting_30 rfl ?_
        refine Ex_iload_n d_rm_nextFitting_32 rfl ?_
        refine Ex_bipush d_rm_nextFitting_33 bp_8 ?_
        refine Ex_iremN (n) (8) d_rm_nextFitting_35 rfl rfl (by omega) (by omega) ?_
        refine Ex_pV2 (v := .int (nI (kLie K (n / 8) (n % 8)))) d_rm_nextFitting_36 pk_rm_nextFitting_148 (t_38 hs) (rm_lies_s hs hK hO (by omega) (by omega)) ?_
        refine Ex_iload_n d_rm_nextFitting_39 rfl ?_
        refine Ex_bipush d_rm_nextFitting_40 bp_8 ?_
        refine Ex_iremN (n) (8) d_rm_nextFitting_42 rfl rfl (by omega) (by omega) ?_
        refine Ex_icmp_neN (kLie K (n / 8) (n % 8)) (n % 8) 66 d_rm_nextFitting_43 rfl rfl rfl (by have := kLie_lt (K := K) (k := n / 8) (m := n % 8) hO (by omega); omega) (by have := kLie_lt (K := K) (k := n / 8) (m := n % 8) hO (by omega); omega) (fun hc43 => ?_) (fun hc43 => ?_)
        · refine Ex_iincN (n) 1 [some (.ref 38), some (.int (nI (k))), some (.int (nI (t0))), some (.int (nI (n + 1))), some (.int (nI (n / 8)))] d_rm_nextFitting_66 rfl rfl rfl rfl ?_
          refine Ex_goto 2 d_rm_nextFitting_69 rfl ?_
          refine Ex_forget (ls' := [some (.ref 38), some (.int (nI (k))), some (.int (nI (t0))), some (.int (nI (n + 1))), none]) (sub_s (sub_s (sub_s (sub_s (sub_n sub_0))))) ?_
          rw [sc_f (fun z => by have z := fitB_iff.mp z; first | omega | exact absurd (z.2.2.symm.trans hc61) (by decide))]
          exact ih (n + 1) (by omega)
        · refine Ex_aload_n d_rm_nextFitting_46 rfl ?_
          refine Ex_iload_n d_rm_nextFitting_47 rfl ?_
          refine Ex_iload d_rm_nextFitting_48 rfl ?_
          refine Ex_iload_n d_rm_nextFitting_50 rfl ?_
          refine Ex_bipush d_rm_nextFitting_51 bp_8 ?_
          refine Ex_iremN (n) (8) d_rm_nextFitting_53 rfl rfl (by omega) (by omega) ?_
          refine Ex_iconst d_rm_nextFitting_54 ic_0 ?_
          refine Ex_pS3 (v := .int (eP (some (n / 8, n % 8)))) d_rm_nextFitting_55 pk_rm_nextFitting_166 (rm_cell_s (k := n / 8) (m := n % 8) (s := 0) (by omega) (by omega) (by omega)) ?_
          refine Ex_pV2 (v := .int (bI (mayB K F f L k (some (n / 8, n % 8))))) d_rm_nextFitting_58 pk_rm_nextFitting_300 (t_38 hs) (rm_mayLie_s hs hK hO hFO hf hF hL hM hk (q := some (n / 8, n % 8)) ⟨by omega, by omega⟩) ?_
          refine Ex_if_eqB (mayB K F f L k (some (n / 8, n % 8))) 66 d_rm_nextFitting_61 rfl rfl (fun hc61 => ?_) (fun hc61 => ?_)
          · refine Ex_iincN (n) 1 [some (.ref 38), some (.int (nI (k))), some (.int (nI (t0))), some (.int (nI (n + 1))), some (.int (nI (n / 8)))] d_rm_nextFitting_66 rfl rfl rfl rfl ?_
            refine Ex_goto 2 d_rm_nextFitting_69 rfl ?_
            refine Ex_forget (ls' := [some (.ref 38), some (.int (nI (k))), some (.int (nI (t0))), some (.int (nI (n + 1))), none]) (sub_s (sub_s (sub_s (sub_s (sub_n sub_0))))) ?_
            rw [sc_f (fun z => by have z := fitB_iff.mp z; first | omega | exact absurd (z.2.2.symm.trans hc61) (by decide))]
            exact ih (n + 1) (by omega)
          · refine Ex_iload_n d_rm_nextFitting_64 rfl ?_
            refine Ex_ireturn d_rm_nextFitting_65 rfl ?_
            rw [sc_t0 (by unfold fitB; rw [decide_eq_true (show 0 < l (n / 8) by omega), decide_eq_true (show kLie K (n / 8) (n % 8) = n % 8 by omega), hc61]; rfl)]
            exact ⟨congrArg (fun z => some (Value.int z)) (nIJ n), rfl⟩
theorem rm_nextFitting_s {S : mj_S} {h : mj_H} (hs : HT h) {K : SK} (hK : KM K h) (hO : KO K) {F : SF} (hFO : FO K.1 F) {f : Nat} (hf : f < F.1) (hF : FT1 F f h) {L : Nat → Pl} (hL : okLy K.1 L) {l : Nat → Nat} (hM : SM K.1 F f L l h) (hl : ∀ k, k < 40 → l k < 2147483648) {k : Nat} (hk : k < 64) {t : Nat} (ht : t ≤ 8 * K.1) : Cl S rm_nextFitting [.ref 38, .int (nI (k)), .int (nI (t))] h (Pu (.int (J (vN (nfS K F f L l k t)))) h) := by
  show Ex S rm_nextFitting 0 [some (.ref 38), some (.int (nI (k))), some (.int (nI (t))), none, none] [] h _
  refine Ex_iload_n d_rm_nextFitting_0 rfl ?_
  refine Ex_istore_n [some (.ref 38), some (.int (nI (k))), some (.int (nI (t))), some (.int (nI (t))), none] d_rm_nextFitting_1 (Nat.le_of_ble_eq_true rfl) rfl ?_
  exact rm_nextFitting_L hs hK hO hFO hf hF hL hM hl hk (8 * K.1 - t) t (by omega)
theorem rm_fitting_L {S : mj_S} {h : mj_H} (hs : HT h) {K : SK} (hK : KM K h) (hO : KO K) {F : SF} (hFO : FO K.1 F) {f : Nat} (hf : f < F.1) (hF : FT1 F f h) {L : Nat → Pl} (hL : okLy K.1 L) {l : Nat → Nat} (hM : SM K.1 F f L l h) (hl : ∀ k, k < 40 → l k < 2147483648) {k : Nat} (hk : k < 64) : ∀ d t m : Nat, t + d = 8 * K.1 → m + cnB (fitB K F f L l k) t d = fgS K F f L l k → Ex S rm_fitting 9 [some (.ref 38), some (.int (nI (k))), some (.int (nI (m))), some (.int (J (vN (sc (fitB K F f L l k) d t 0))))] [] h (Pu (.int (nI (fgS K F f L l k))) h) := by
  have hk40 := hO.1
  intro d
  induction d using Nat.strongRecOn with
  | _ d ih =>
    intro t m htd hm
    have hsc1 := sc_n (g := (fitB K F f L l k)) d t
    have hsc2 := fun n => sc_b (g := (fitB K F f L l k)) d t (n := n)
    generalize sc (fitB K F f L l k) d t 0 = r at hsc1 hsc2
    rcases r with _ | n
    · show Ex S rm_fitting 9 [some (.ref 38), some (.int (nI (k))), some (.int (nI (m))), some (.int (J (-1)))] [] h _
      refine Ex_iload_n d_rm_fitting_9 rfl ?_
      refine Ex_if_ltZ (-1) 28 d_rm_fitting_10 rfl rfl (by omega) (fun hc10 => ?_) (fun hc10 => ?_)
      · refine Ex_iload_n d_rm_fitting_28 rfl ?_
        refine Ex_ireturn d_rm_fitting_29 rfl ?_
        rw [cnB_0 d t (hsc1 rfl)] at hm
        exact ⟨by rw [← hm]; rfl, rfl⟩
      · exfalso; omega
    · obtain ⟨h1, h2, h3, h4⟩ := hsc2 n rfl
      show Ex S rm_fitting 9 [some (.ref 38), some (.int (nI (k))), some (.int (nI (m))), some (.int (J ((n : Int))))] [] h _
      rw [← nIJ]
      refine Ex_iload_n d_rm_fitting_9 rfl ?_
      refine Ex_if_ltN (n) 28 d_rm_fitting_10 rfl rfl (by omega) (fun hc10 => ?_) (fun hc10 => ?_)
      · exfalso; omega
      · refine Ex_iincN (m) 1 [some (.ref 38), some (.int (nI (k))), some (.int (nI (m + 1))), some (.int (nI (n)))] d_rm_fitting_13 rfl rfl rfl rfl ?_
        refine Ex_aload_n d_rm_fitting_16 rfl ?_
        refine Ex_iload_n d_rm_fitting_17 rfl ?_
        refine Ex_iload_n d_rm_fitting_18 rfl ?_
        refine Ex_iconst d_rm_fitting_19 ic_1 ?_
        refine Ex_iaddN (n) (1) d_rm_fitting_20 rfl rfl ?_
        refine Ex_pV2 (v := .int (J (vN (nfS K F f L l k (n + 1))))) d_rm_fitting_21 pk_rm_fitting_304 (t_38 hs) (rm_nextFitting_s hs hK hO hFO hf hF hL hM hl hk (t := n + 1) (by omega)) ?_
        refine Ex_istore_n [some (.ref 38), some (.int (nI (k))), some (.int (nI (m + 1))), some (.int (J (vN (nfS K F f L l k (n + 1)))))] d_rm_fitting_24 (Nat.le_of_ble_eq_true rfl) rfl ?_
        refine Ex_goto 9 d_rm_fitting_25 rfl ?_
        refine ih (8 * K.1 - (n + 1)) (by omega) (n + 1) (m + 1) (by omega) ?_
        have z := cnB_a (fitB K F f L l k) (n - t) (d - (n - t)) t
        rw [show n - t + (d - (n - t)) = d by omega, cnB_0 (n - t) t (fun m h1 h2 => h4 m h1 (by omega)), show t + (n - t) = n by omega, show d - (n - t) = (8 * K.1 - (n + 1)) + 1 by omega] at z
        rw [show cnB (fitB K F f L l k) n ((8 * K.1 - (n + 1)) + 1) = (if (fitB K F f L l k) n = true then 1 else 0) + cnB (fitB K F f L l k) (n + 1) (8 * K.1 - (n + 1)) from rfl, if_pos h3] at z
        omega
theorem rm_fitting_s {S : mj_S} {h : mj_H} (hs : HT h) {K : SK} (hK : KM K h) (hO : KO K) {F : SF} (hFO : FO K.1 F) {f : Nat} (hf : f < F.1) (hF : FT1 F f h) {L : Nat → Pl} (hL : okLy K.1 L) {l : Nat → Nat} (hM : SM K.1 F f L l h) (hl : ∀ k, k < 40 → l k < 2147483648) {k : Nat} (hk : k < 64) : Cl S rm_fitting [.ref 38, .int (nI (k))] h (Pu (.int (nI (fgS K F f L l k))) h) := by
  show Ex S rm_fitting 0 [some (.ref 38), some (.int (nI (k))), none, none] [] h _
  refine Ex_iconst d_rm_fitting_0 ic_0 ?_
  refine Ex_istore_n [some (.ref 38), some (.int (nI (k))), some (.int (0)), none] d_rm_fitting_1 (Nat.le_of_ble_eq_true rfl) rfl ?_
  refine Ex_aload_n d_rm_fitting_2 rfl ?_
  refine Ex_iload_n d_rm_fitting_3 rfl ?_
  refine Ex_iconst d_rm_fitting_4 ic_0 ?_
  refine Ex_pV2 (v := .int (J (vN (nfS K F f L l k 0)))) d_rm_fitting_5 pk_rm_fitting_304 (t_38 hs) (rm_nextFitting_s hs hK hO hFO hf hF hL hM hl hk (t := 0) (by omega)) ?_
  refine Ex_istore_n [some (.ref 38), some (.int (nI (k))), some (.int (0)), some (.int (J (vN (nfS K F f L l k 0))))] d_rm_fitting_8 (Nat.le_of_ble_eq_true rfl) rfl ?_
  exact rm_fitting_L hs hK hO hFO hf hF hL hM hl hk (8 * K.1) 0 0 (by omega) (Nat.zero_add _)
