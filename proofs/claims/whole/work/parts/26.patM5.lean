/-! The reference: put, shade, at, shares. -/
theorem own_row {P : SP} {p i : Nat} (hi : i < (pPat P p).length) : (pPat (ownP P p i) p).getD i 0 = pMd P := by
  have : pPat (ownP P p i) p = (pPat P p).set i (pMd P) := by simp [ownP, uPat, pPat, va_up]
  rw [this, set_get hi, if_pos rfl]
theorem own_len {P : SP} {p i : Nat} : (pPat (ownP P p i) p).length = (pPat P p).length := by
  have : pPat (ownP P p i) p = (pPat P p).set i (pMd P) := by simp [ownP, uPat, pPat, va_up]
  rw [this, List.length_set]
theorem own_O {P : SP} {p i : Nat} : pO (ownP P p i) (pMd P) = pO P ((pPat P p).getD i 0) := newR_On (l := pL P ((pPat P p).getD i 0)) (c := pC P ((pPat P p).getD i 0))
theorem own_Ln {P : SP} {p i : Nat} : pL (ownP P p i) (pMd P) = pL P ((pPat P p).getD i 0) := newR_Ln (z := pO P ((pPat P p).getD i 0)) (c := pC P ((pPat P p).getD i 0))
theorem own_Cn {P : SP} {p i : Nat} : pC (ownP P p i) (pMd P) = pC P ((pPat P p).getD i 0) := newR_Cn (l := pL P ((pPat P p).getD i 0)) (z := pO P ((pPat P p).getD i 0))
theorem own_Co {P : SP} {p i r : Nat} (h : r < pMd P) : pC (ownP P p i) r = pC P r := newR_Co (l := pL P ((pPat P p).getD i 0)) (z := pO P ((pPat P p).getD i 0)) (c := pC P ((pPat P p).getD i 0)) h
theorem own_Lo {P : SP} {p i r : Nat} (h : r < pMd P) : pL (ownP P p i) r = pL P r := newR_Lo (l := pL P ((pPat P p).getD i 0)) (z := pO P ((pPat P p).getD i 0)) (c := pC P ((pPat P p).getD i 0)) h
def WRP (a k : Nat) : Prop := WRw a k ∨ WPa a k
theorem WRP_st : ∀ q ∈ statR, ¬ WRP q.1 q.2.1 := by unfold WRP WRw WPa; decide
theorem rm_sets_s {S : mj_S} {h : mj_H} (hs : HT h) {P : SP} (hP : PM P h) {n : Nat} (hQ : PO n P) {a b : Nat} (ha : a < pNp P) (hb : b < (pPat P a).length) {j : Int} (hj : pO P ((pPat P a).getD b 0) ≤ j ∧ j < pO P ((pPat P a).getD b 0) + pL P ((pPat P a).getD b 0)) {c : Tl} : Cl S rm_sets [.ref 38, .int (nI (a)), .int (nI (b)), .int (J (j)), .int (eM c)] h (Ans (pMd P < 6000) (PM P) (PM (setP P a b (j - pO P ((pPat P a).getD b 0)).toNat c)) WPM h) := by
  show Ex S rm_sets 0 [some (.ref 38), some (.int (nI (a))), some (.int (nI (b))), some (.int (J (j))), some (.int (eM c))] [] h _
  have hmd : pMd P ≤ 6000 := hQ.1
  have hr := PO_row hQ ha hb
  have hro := hQ.2.1 _ hr
  refine Ex_aload_n d_rm_sets_0 rfl ?_
  refine Ex_getIE d_rm_sets_1 pf_rm_172 rfl (t_38 hs) hP.1.1 ?_
  refine Ex_sipush d_rm_sets_4 sp_6000 ?_
  refine Ex_icmp_neN (pMd P) (6000) 12 d_rm_sets_7 rfl rfl rfl (by omega) (by omega) (fun hc7 => ?_) (fun hc7 => ?_)
  · refine Ex_aload_n d_rm_sets_12 rfl ?_
    refine Ex_iload_n d_rm_sets_13 rfl ?_
    refine Ex_cV1 d_rm_sets_14 pk_rm_sets_190 (t_38 hs) (rm_keep_s hs hP hQ ha) ?_
    rintro r h1 ⟨rfl, hH1, hF1⟩
    have hs1 : HT h1 := hF1.ht hs WHi_st
    have hPa1 : PaM P h1 := PaM_fr hs hF1 (by intro a k z; unfold WPa at z; unfold WHi; omega) hP.2.1
    have hRw1 : RwM P h1 := RwM_fr hs hF1 (by intro a k z; unfold WRw at z; unfold WHi; omega) hP.1
    show Ex S rm_sets 17 [some (.ref 38), some (.int (nI (a))), some (.int (nI (b))), some (.int (J (j))), some (.int (eM c))] [] h1 _
    refine Ex_aload_n d_rm_sets_17 rfl ?_
    refine Ex_iload_n d_rm_sets_18 rfl ?_
    refine Ex_iload_n d_rm_sets_19 rfl ?_
    refine Ex_cV2 d_rm_sets_20 pk_rm_sets_201 (t_38 hs1) (rm_own_s (P := keepP P a) hs1 hRw1 hPa1 (PO_keep hQ ha) ha hb (show pMd P < 6000 by omega)) ?_
    rintro r h2 ⟨rfl, hRw2, hPa2, hF2⟩
    have hs2 : HT h2 := hF2.ht hs1 WRP_st
    have hH2 : HiM (keepP P a) h2 := HiM_fr hs1 hF2 (by intro a k z; unfold WHi at z; unfold WRw WPa; omega) hH1
    have hPM2 : PM (ownP (keepP P a) a b) h2 := ⟨hRw2, hPa2, hH2⟩
    have hQ2 := PO_own (PO_keep hQ ha) ha hb (show pMd (keepP P a) < 6000 from (show pMd P < 6000 by omega))
    have hpl : Cl S rm_placeOf [.ref 38, .int (nI a), .int (nI b), .int (J j)] h2 (Pu (.int (nI (60 * pMd P + (j - pO P ((pPat P a).getD b 0)).toNat))) h2) := by
      have := rm_placeOf_s (S := S) hs2 hPM2 hQ2 (p := a) (i := b) ha (by rw [own_len]; exact hb) (j := j) (by rw [own_row (P := keepP P a) hb, own_O, own_Ln]; exact hj)
      rw [own_row (P := keepP P a) hb, own_O] at this
      exact this
    show Ex S rm_sets 23 [some (.ref 38), some (.int (nI (a))), some (.int (nI (b))), some (.int (J (j))), some (.int (eM c))] [] h2 _
    refine Ex_aload_n d_rm_sets_23 rfl ?_
    refine Ex_getR d_rm_sets_24 pf_rm_34 rfl (t_38 hs2) (r_38_8 hs2) ?_
    refine Ex_aload_n d_rm_sets_27 rfl ?_
    refine Ex_iload_n d_rm_sets_28 rfl ?_
    refine Ex_iload_n d_rm_sets_29 rfl ?_
    refine Ex_iload_n d_rm_sets_30 rfl ?_
    refine Ex_pV3 d_rm_sets_31 pk_rm_sets_178 (t_38 hs2) hpl ?_
    refine Ex_iload d_rm_sets_34 rfl ?_
    refine Ex_iastoreN (a := 60 * pMd P + (j - pO P ((pPat P a).getD b 0)).toNat) d_rm_sets_36 (t_46 hs2) rfl (by omega) (by decide) ?_
    refine Ex_iconst d_rm_sets_37 ic_1 ?_
    refine Ex_zreturn d_rm_sets_38 rfl (by decide) ?_
    refine Or.inr ⟨by omega, rfl, ⟨⟨hRw2.1, fun r0 hr0 => ?_⟩, hPa2, hH2⟩, ?_⟩
    · have hr0 : r0 < pMd P + 1 := hr0
      obtain ⟨a1, a2, a3⟩ := hRw2.2 r0 hr0
      refine ⟨a1, a2, fun k hk => ?_⟩
      have hk : k < pL (newR (keepP P a) (pL P ((pPat P a).getD b 0)) (pO P ((pPat P a).getD b 0)) (va_up (pC P ((pPat P a).getD b 0)) (j - pO P ((pPat P a).getD b 0)).toNat c)) r0 := hk
      show va_up (mI h2 46) (60 * pMd P + (j - pO P ((pPat P a).getD b 0)).toNat) (eM c) (60 * r0 + k) = eM (pC (newR (keepP P a) (pL P ((pPat P a).getD b 0)) (pO P ((pPat P a).getD b 0)) (va_up (pC P ((pPat P a).getD b 0)) (j - pO P ((pPat P a).getD b 0)).toNat c)) r0 k)
      by_cases hrm : r0 = pMd P
      · subst hrm
        have hk : k < pL P ((pPat P a).getD b 0) := by have := hk; rw [show pL (newR (keepP P a) (pL P ((pPat P a).getD b 0)) (pO P ((pPat P a).getD b 0)) (va_up (pC P ((pPat P a).getD b 0)) (j - pO P ((pPat P a).getD b 0)).toNat c)) (pMd P) = _ from newR_Ln (P := keepP P a)] at this; exact this
        have hC : pC (newR (keepP P a) (pL P ((pPat P a).getD b 0)) (pO P ((pPat P a).getD b 0)) (va_up (pC P ((pPat P a).getD b 0)) (j - pO P ((pPat P a).getD b 0)).toNat c)) (pMd P) = va_up (pC P ((pPat P a).getD b 0)) (j - pO P ((pPat P a).getD b 0)).toNat c := newR_Cn (P := keepP P a)
        rw [hC]
        unfold va_up
        by_cases hkk : k = (j - pO P ((pPat P a).getD b 0)).toNat
        · rw [if_pos (by omega), if_pos hkk]
        · rw [if_neg (by omega), if_neg hkk]
          have hlt : k < pL (ownP (keepP P a) a b) (pMd P) := by rw [show pL (ownP (keepP P a) a b) (pMd P) = _ from own_Ln (P := keepP P a)]; exact hk
          rw [a3 k hlt]
          rw [show pC (ownP (keepP P a) a b) (pMd P) = _ from own_Cn (P := keepP P a)]; rfl
      · have hr1 : r0 < pMd (keepP P a) := show r0 < pMd P by omega
        rw [newR_Lo hr1] at hk
        rw [newR_Co hr1]
        have h60 : pL P r0 ≤ 60 := (hQ.2.1 r0 hr1).1
        have hk2 : k < pL P r0 := hk
        unfold va_up
        rw [if_neg (by have hr2 : r0 < pMd P := hr1; omega)]
        have hlt : k < pL (ownP (keepP P a) a b) r0 := by rw [own_Lo hr1]; exact hk
        rw [a3 k hlt, own_Co hr1]
    · refine Fr.sI ((hF1.mono (fun a k z => ?_)).tr (hF2.mono (fun a k z => ?_))) ?_
      · unfold WHi at z; unfold WPM; omega
      · unfold WRw WPa at z; unfold WPM; omega
      · unfold WPM; omega
  · refine Ex_iconst d_rm_sets_10 ic_0 ?_
    refine Ex_zreturn d_rm_sets_11 rfl (by decide) ?_
    exact Or.inl ⟨by omega, rfl, rfl⟩
def okPut (K : SK) (P : SP) (p i j k m : Int) : Prop := 0 ≤ p ∧ p < pNp P ∧ (cAt P p.toNat i j).isSome = true ∧ (k = -1 ∨ (0 ≤ k ∧ k < K.1 ∧ 0 ≤ m ∧ m < 8)) ∧ pMd P < 6000
def putC (K : SK) (k m : Int) : Tl := if k = -1 then none else some (k.toNat, kLie K k.toNat m.toNat, 0)
def setA (P : SP) (p i j : Int) (c : Tl) : SP := setP P p.toNat i.toNat (j - pO P ((pPat P p.toNat).getD i.toNat 0)).toNat c
def okSh (P : SP) (p i j : Int) : Prop := 0 ≤ p ∧ p < pNp P ∧ (∃ q, cAt P p.toNat i j = some (some q)) ∧ pMd P < 6000
def shC (P : SP) (p i j : Int) (s : Int32) : Tl := match cAt P p.toNat i j with
  | some (some (k, m, _)) => some (k, m, lo16 s)
  | _ => none
theorem Ans_map {c c' : Prop} {R R1 R' : mj_H → Prop} {W : Nat → Nat → Prop} {h : mj_H} {r : Option Value} {h' : mj_H} (hc : c ↔ c') (a : Ans c R R1 W h r h') (hr : ∀ x, R1 x → R' x) : Ans c' R R' W h r h' := by
  rcases a with ⟨a1, a2, a3⟩ | ⟨a1, a2, a3, a4⟩
  · exact Or.inl ⟨fun z => a1 (hc.mpr z), a2, a3⟩
  · exact Or.inr ⟨hc.mp a1, a2, hr _ a3, a4⟩
theorem Ans_01 {c : Prop} {R R1 : mj_H → Prop} {W : Nat → Nat → Prop} {h : mj_H} {r : Option Value} {h' : mj_H} (a : Ans c R R1 W h r h') : ∃ v : Int32, r = some (.int v) ∧ (v = 0 ∨ v = 1) := by
  rcases a with ⟨a1, a2, a3⟩ | ⟨a1, a2, a3, a4⟩
  · exact ⟨0, a2, Or.inl rfl⟩
  · exact ⟨1, a2, Or.inr rfl⟩
theorem rm_put_s {S : mj_S} {h : mj_H} (hs : HT h) {K : SK} (hK : KM K h) (hO : KO K) {P : SP} (hP : PM P h) (hQ : PO K.1 P) {p i j k m : Int} (hp : -2147483648 ≤ p ∧ p < 2147483648) (hi : -2147483648 ≤ i ∧ i < 2147483648) (hj : -2147483648 ≤ j ∧ j < 2147483648) (hk : -2147483648 ≤ k ∧ k < 2147483648) (hm : -2147483648 ≤ m ∧ m < 2147483648) : Cl S rm_put [.ref 38, .int (J (p)), .int (J (i)), .int (J (j)), .int (J (k)), .int (J (m))] h (Ans (okPut K P p i j k m) (PM P) (PM (setA P p i j (putC K k m))) WPM h) := by
  show Ex S rm_put 0 [some (.ref 38), some (.int (J (p))), some (.int (J (i))), some (.int (J (j))), some (.int (J (k))), some (.int (J (m)))] [] h _
  refine Ex_aload_n d_rm_put_0 rfl ?_
  refine Ex_iload_n d_rm_put_1 rfl ?_
  refine Ex_pV1 d_rm_put_2 pk_rm_put_187 (t_38 hs) (rm_isPattern_s hs hP.2.1 hQ.2.2.1 hp) ?_
  refine Ex_if_eqB (decide (0 ≤ p ∧ p < pNp P)) 43 d_rm_put_5 rfl rfl (fun hc5 => ?_) (fun hc5 => ?_)
  · rw [decide_eq_false_iff_not] at hc5
    refine Ex_iconst d_rm_put_43 ic_0 ?_
    refine Ex_zreturn d_rm_put_44 rfl (by decide) ?_
    exact Or.inl ⟨by rintro ⟨z1, z2, z3, z4, z5⟩; first | omega | (simp only [Int.toNat_natCast] at z3; rw [z3] at hc17; cases hc17), rfl, rfl⟩
  · rw [decide_eq_true_eq] at hc5
    obtain ⟨a, rfl⟩ : ∃ a : Nat, p = (a : Int) := ⟨p.toNat, by omega⟩
    simp only [← nIJ]
    have hlen := (hQ.2.2.2.1 a (by omega)).1
    have hnp := hQ.2.2.1
    have hmd : pMd P ≤ 6000 := hQ.1
    refine Ex_aload_n d_rm_put_8 rfl ?_
    refine Ex_iload_n d_rm_put_9 rfl ?_
    refine Ex_iload_n d_rm_put_10 rfl ?_
    refine Ex_i2lZ (i) d_rm_put_11 rfl (by omega) ?_
    refine Ex_iload_n d_rm_put_12 rfl ?_
    refine Ex_i2lZ (j) d_rm_put_13 rfl (by omega) ?_
    refine Ex_pV3 d_rm_put_14 pk_rm_put_204 (t_38 hs) (rm_has_s hs hP hQ (show a < pNp P by omega) (by omega) (by omega)) ?_
    refine Ex_if_eqB ((cAt P a i j).isSome) 43 d_rm_put_17 rfl rfl (fun hc17 => ?_) (fun hc17 => ?_)
    · refine Ex_iconst d_rm_put_43 ic_0 ?_
      refine Ex_zreturn d_rm_put_44 rfl (by decide) ?_
      exact Or.inl ⟨by rintro ⟨z1, z2, z3, z4, z5⟩; first | omega | (simp only [Int.toNat_natCast] at z3; rw [z3] at hc17; cases hc17), rfl, rfl⟩
    · refine Ex_iload d_rm_put_20 rfl ?_
      refine Ex_iconst d_rm_put_22 ic_m1 ?_
      refine Ex_icmp_eqZ (k) ((-1)) 45 d_rm_put_23 rfl rfl (by decide) (by omega) (by omega) (fun hc23 => ?_) (fun hc23 => ?_)
      · obtain ⟨c0, hc0⟩ := Option.isSome_iff_exists.mp hc17
        obtain ⟨g1, g2, g3, g4, g5⟩ := cAt_some hc0
        obtain ⟨b, rfl⟩ : ∃ b : Nat, i = (b : Int) := ⟨i.toNat, by omega⟩
        simp only [← nIJ]
        simp only [Int.toNat_natCast] at g2 g3 g4 g5
        refine Ex_aload_n d_rm_put_45 rfl ?_
        refine Ex_iload_n d_rm_put_46 rfl ?_
        refine Ex_iload_n d_rm_put_47 rfl ?_
        refine Ex_iload_n d_rm_put_48 rfl ?_
        refine Ex_iload d_rm_put_49 rfl ?_
        refine Ex_iconst d_rm_put_51 ic_m1 ?_
        refine Ex_icmp_neZ (k) ((-1)) 59 d_rm_put_52 rfl rfl (by decide) (by omega) (by omega) (fun hc52 => ?_) (fun hc52 => ?_)
        · obtain ⟨c, rfl⟩ : ∃ c : Nat, k = (c : Int) := ⟨k.toNat, by omega⟩
          obtain ⟨d, rfl⟩ : ∃ d : Nat, m = (d : Int) := ⟨m.toNat, by omega⟩
          simp only [← nIJ]
          refine Ex_iload d_rm_put_59 rfl ?_
          refine Ex_aload_n d_rm_put_61 rfl ?_
          refine Ex_iload d_rm_put_62 rfl ?_
          refine Ex_iload d_rm_put_64 rfl ?_
          refine Ex_pV2 d_rm_put_66 pk_rm_put_148 (t_38 hs) (rm_lies_s hs hK hO (show c < K.1 by omega) (show d < 8 by omega)) ?_
          refine Ex_iconst d_rm_put_69 ic_0 ?_
          refine Ex_pS3 d_rm_put_70 pk_rm_put_166 (rm_cell_0 (by have := hO.1; omega) (kLie_lt hO (by omega))) ?_
          refine Ex_cV4 d_rm_put_73 pk_rm_put_208 (t_38 hs) (rm_sets_s (c := (some (c, kLie K c d, 0))) hs hP hQ (show a < pNp P by omega) (show b < (pPat P a).length by omega) ⟨g3, g4⟩) ?_
          intro r h1 hA
          obtain ⟨v, rfl, hv⟩ := Ans_01 hA
          show Ex S rm_put 76 [some (.ref 38), some (.int (nI (a))), some (.int (nI (b))), some (.int (J (j))), some (.int (nI (c))), some (.int (nI (d)))] [.int (v)] h1 _
          refine Ex_zreturn d_rm_put_76 rfl (by assumption) ?_
          refine Ans_map ?_ hA (fun x hx => ?_)
          · unfold okPut
            simp only [Int.toNat_natCast, hc0, Option.isSome_some, true_and]
            omega
          · unfold setA putC
            rw [if_neg (by omega)]
            simp only [Int.toNat_natCast]
            exact hx
        · refine Ex_iconst d_rm_put_55 ic_0 ?_
          refine Ex_goto 73 d_rm_put_56 rfl ?_
          refine Ex_cV4 d_rm_put_73 pk_rm_put_208 (t_38 hs) (rm_sets_s (c := none) hs hP hQ (show a < pNp P by omega) (show b < (pPat P a).length by omega) ⟨g3, g4⟩) ?_
          intro r h1 hA
          obtain ⟨v, rfl, hv⟩ := Ans_01 hA
          show Ex S rm_put 76 [some (.ref 38), some (.int (nI (a))), some (.int (nI (b))), some (.int (J (j))), some (.int (J (k))), some (.int (J (m)))] [.int (v)] h1 _
          refine Ex_zreturn d_rm_put_76 rfl (by assumption) ?_
          refine Ans_map ?_ hA (fun x hx => ?_)
          · unfold okPut
            simp only [Int.toNat_natCast, hc0, Option.isSome_some, true_and]
            omega
          · unfold setA putC
            rw [if_pos (by omega)]
            simp only [Int.toNat_natCast]
            exact hx
      · refine Ex_aload_n d_rm_put_26 rfl ?_
        refine Ex_iload d_rm_put_27 rfl ?_
        refine Ex_pV1 d_rm_put_29 pk_rm_put_145 (t_38 hs) (rm_isKind_s hs hK hO hk) ?_
        refine Ex_if_eqB (decide (0 ≤ k ∧ k < K.1)) 43 d_rm_put_32 rfl rfl (fun hc32 => ?_) (fun hc32 => ?_)
        · rw [decide_eq_false_iff_not] at hc32
          refine Ex_iconst d_rm_put_43 ic_0 ?_
          refine Ex_zreturn d_rm_put_44 rfl (by decide) ?_
          exact Or.inl ⟨by rintro ⟨z1, z2, z3, z4, z5⟩; first | omega | (simp only [Int.toNat_natCast] at z3; rw [z3] at hc17; cases hc17), rfl, rfl⟩
        · rw [decide_eq_true_eq] at hc32
          refine Ex_iload d_rm_put_35 rfl ?_
          refine Ex_pS1 d_rm_put_37 pk_rm_put_137 (rm_isMove_s hm) ?_
          refine Ex_if_neB (decide (0 ≤ m ∧ m < 8)) 45 d_rm_put_40 rfl rfl (fun hc40 => ?_) (fun hc40 => ?_)
          · rw [decide_eq_true_eq] at hc40
            obtain ⟨c0, hc0⟩ := Option.isSome_iff_exists.mp hc17
            obtain ⟨g1, g2, g3, g4, g5⟩ := cAt_some hc0
            obtain ⟨b, rfl⟩ : ∃ b : Nat, i = (b : Int) := ⟨i.toNat, by omega⟩
            simp only [← nIJ]
            simp only [Int.toNat_natCast] at g2 g3 g4 g5
            refine Ex_aload_n d_rm_put_45 rfl ?_
            refine Ex_iload_n d_rm_put_46 rfl ?_
            refine Ex_iload_n d_rm_put_47 rfl ?_
            refine Ex_iload_n d_rm_put_48 rfl ?_
            refine Ex_iload d_rm_put_49 rfl ?_
            refine Ex_iconst d_rm_put_51 ic_m1 ?_
            refine Ex_icmp_neZ (k) ((-1)) 59 d_rm_put_52 rfl rfl (by decide) (by omega) (by omega) (fun hc52 => ?_) (fun hc52 => ?_)
            · obtain ⟨c, rfl⟩ : ∃ c : Nat, k = (c : Int) := ⟨k.toNat, by omega⟩
              obtain ⟨d, rfl⟩ : ∃ d : Nat, m = (d : Int) := ⟨m.toNat, by omega⟩
              simp only [← nIJ]
              refine Ex_iload d_rm_put_59 rfl ?_
              refine Ex_aload_n d_rm_put_61 rfl ?_
              refine Ex_iload d_rm_put_62 rfl ?_
              refine Ex_iload d_rm_put_64 rfl ?_
              refine Ex_pV2 d_rm_put_66 pk_rm_put_148 (t_38 hs) (rm_lies_s hs hK hO (show c < K.1 by omega) (show d < 8 by omega)) ?_
              refine Ex_iconst d_rm_put_69 ic_0 ?_
              refine Ex_pS3 d_rm_put_70 pk_rm_put_166 (rm_cell_0 (by have := hO.1; omega) (kLie_lt hO (by omega))) ?_
              refine Ex_cV4 d_rm_put_73 pk_rm_put_208 (t_38 hs) (rm_sets_s (c := (some (c, kLie K c d, 0))) hs hP hQ (show a < pNp P by omega) (show b < (pPat P a).length by omega) ⟨g3, g4⟩) ?_
              intro r h1 hA
              obtain ⟨v, rfl, hv⟩ := Ans_01 hA
              show Ex S rm_put 76 [some (.ref 38), some (.int (nI (a))), some (.int (nI (b))), some (.int (J (j))), some (.int (nI (c))), some (.int (nI (d)))] [.int (v)] h1 _
              refine Ex_zreturn d_rm_put_76 rfl (by assumption) ?_
              refine Ans_map ?_ hA (fun x hx => ?_)
              · unfold okPut
                simp only [Int.toNat_natCast, hc0, Option.isSome_some, true_and]
                omega
              · unfold setA putC
                rw [if_neg (by omega)]
                simp only [Int.toNat_natCast]
                exact hx
            · refine Ex_iconst d_rm_put_55 ic_0 ?_
              refine Ex_goto 73 d_rm_put_56 rfl ?_
              refine Ex_cV4 d_rm_put_73 pk_rm_put_208 (t_38 hs) (rm_sets_s (c := none) hs hP hQ (show a < pNp P by omega) (show b < (pPat P a).length by omega) ⟨g3, g4⟩) ?_
              intro r h1 hA
              obtain ⟨v, rfl, hv⟩ := Ans_01 hA
              show Ex S rm_put 76 [some (.ref 38), some (.int (nI (a))), some (.int (nI (b))), some (.int (J (j))), some (.int (J (k))), some (.int (J (m)))] [.int (v)] h1 _
              refine Ex_zreturn d_rm_put_76 rfl (by assumption) ?_
              refine Ans_map ?_ hA (fun x hx => ?_)
              · unfold okPut
                simp only [Int.toNat_natCast, hc0, Option.isSome_some, true_and]
                omega
              · unfold setA putC
                rw [if_pos (by omega)]
                simp only [Int.toNat_natCast]
                exact hx
          · rw [decide_eq_false_iff_not] at hc40
            refine Ex_iconst d_rm_put_43 ic_0 ?_
            refine Ex_zreturn d_rm_put_44 rfl (by decide) ?_
            exact Or.inl ⟨by rintro ⟨z1, z2, z3, z4, z5⟩; first | omega | (simp only [Int.toNat_natCast] at z3; rw [z3] at hc17; cases hc17), rfl, rfl⟩
theorem rm_shade_s {S : mj_S} {h : mj_H} (hs : HT h) {K : SK} (hK : KM K h) (hO : KO K) {P : SP} (hP : PM P h) (hQ : PO K.1 P) {p i j : Int} {s : Int32} (hp : -2147483648 ≤ p ∧ p < 2147483648) (hi : -2147483648 ≤ i ∧ i < 2147483648) (hj : -2147483648 ≤ j ∧ j < 2147483648) : Cl S rm_shade [.ref 38, .int (J (p)), .int (J (i)), .int (J (j)), .int (s)] h (Ans (okSh P p i j) (PM P) (PM (setA P p i j (shC P p i j s))) WPM h) := by
  show Ex S rm_shade 0 [some (.ref 38), some (.int (J (p))), some (.int (J (i))), some (.int (J (j))), some (.int (s)), none] [] h _
  refine Ex_aload_n d_rm_shade_0 rfl ?_
  refine Ex_iload_n d_rm_shade_1 rfl ?_
  refine Ex_pV1 d_rm_shade_2 pk_rm_shade_187 (t_38 hs) (rm_isPattern_s hs hP.2.1 hQ.2.2.1 hp) ?_
  refine Ex_if_eqB (decide (0 ≤ p ∧ p < pNp P)) 30 d_rm_shade_5 rfl rfl (fun hc5 => ?_) (fun hc5 => ?_)
  · rw [decide_eq_false_iff_not] at hc5
    refine Ex_iconst d_rm_shade_30 ic_0 ?_
    refine Ex_zreturn d_rm_shade_31 rfl (by decide) ?_
    refine Or.inl ⟨?_, rfl, rfl⟩
    rintro ⟨z1, z2, ⟨q, z3⟩, z5⟩
    first | omega | (simp only [Int.toNat_natCast] at z3; simp [z3] at hc17; done) | (simp only [Int.toNat_natCast] at z3; rw [hc0] at z3; cases z3; obtain ⟨k, m, t⟩ := q; have := hok0.1; have := hok0.2.1; have := hok0.2.2; have hn40 := hO.1; have := nI_inj32 (b := 0) (by omega) (by omega) hc27; omega)
  · rw [decide_eq_true_eq] at hc5
    obtain ⟨a, rfl⟩ : ∃ a : Nat, p = (a : Int) := ⟨p.toNat, by omega⟩
    simp only [← nIJ]
    have hlen := (hQ.2.2.2.1 a (by omega)).1
    have hnp := hQ.2.2.1
    have hmd : pMd P ≤ 6000 := hQ.1
    refine Ex_aload_n d_rm_shade_8 rfl ?_
    refine Ex_iload_n d_rm_shade_9 rfl ?_
    refine Ex_iload_n d_rm_shade_10 rfl ?_
    refine Ex_i2lZ (i) d_rm_shade_11 rfl (by omega) ?_
    refine Ex_iload_n d_rm_shade_12 rfl ?_
    refine Ex_i2lZ (j) d_rm_shade_13 rfl (by omega) ?_
    refine Ex_pV3 d_rm_shade_14 pk_rm_shade_204 (t_38 hs) (rm_has_s hs hP hQ (show a < pNp P by omega) (by omega) (by omega)) ?_
    refine Ex_if_eqB ((cAt P a i j).isSome) 30 d_rm_shade_17 rfl rfl (fun hc17 => ?_) (fun hc17 => ?_)
    · refine Ex_iconst d_rm_shade_30 ic_0 ?_
      refine Ex_zreturn d_rm_shade_31 rfl (by decide) ?_
      refine Or.inl ⟨?_, rfl, rfl⟩
      rintro ⟨z1, z2, ⟨q, z3⟩, z5⟩
      first | omega | (simp only [Int.toNat_natCast] at z3; simp [z3] at hc17; done) | (simp only [Int.toNat_natCast] at z3; rw [hc0] at z3; cases z3; obtain ⟨k, m, t⟩ := q; have := hok0.1; have := hok0.2.1; have := hok0.2.2; have hn40 := hO.1; have := nI_inj32 (b := 0) (by omega) (by omega) hc27; omega)
    · obtain ⟨c0, hc0⟩ := Option.isSome_iff_exists.mp hc17
      obtain ⟨g1, g2, g3, g4, g5⟩ := cAt_some hc0
      have hok0 := cAt_ok hQ (show a < pNp P by omega) (i := i) (j := j)
      rw [hc0] at hok0
      refine Ex_aload_n d_rm_shade_20 rfl ?_
      refine Ex_iload_n d_rm_shade_21 rfl ?_
      refine Ex_iload_n d_rm_shade_22 rfl ?_
      refine Ex_iload_n d_rm_shade_23 rfl ?_
      refine Ex_pV3 d_rm_shade_24 pk_rm_shade_212 (t_38 hs) (rm_cellAt_s hs hP hQ (show a < pNp P by omega) hc0) ?_
      refine Ex_if_ne 32 d_rm_shade_27 rfl (fun hc27 => ?_) (fun hc27 => ?_)
      · refine Ex_aload_n d_rm_shade_32 rfl ?_
        refine Ex_iload_n d_rm_shade_33 rfl ?_
        refine Ex_iload_n d_rm_shade_34 rfl ?_
        refine Ex_iload_n d_rm_shade_35 rfl ?_
        refine Ex_pV3 d_rm_shade_36 pk_rm_shade_212 (t_38 hs) (rm_cellAt_s hs hP hQ (show a < pNp P by omega) hc0) ?_
        refine Ex_istore [some (.ref 38), some (.int (nI (a))), some (.int (J (i))), some (.int (J (j))), some (.int (s)), some (.int (eM c0))] d_rm_shade_39 (Nat.le_of_ble_eq_true rfl) rfl ?_
        obtain ⟨b, rfl⟩ : ∃ b : Nat, i = (b : Int) := ⟨i.toNat, by omega⟩
        simp only [← nIJ]
        simp only [Int.toNat_natCast] at g2 g3 g4 g5
        obtain ⟨k, m, t, rfl⟩ : ∃ k m t, c0 = some (k, m, t) := by
          match c0, hc27 with
          | none, z => exact absurd rfl z
          | some (k, m, t), _ => exact ⟨k, m, t, rfl⟩
        have hk40 : k < 40 := Nat.lt_of_lt_of_le hok0.1 hO.1
        have hm8 := hok0.2.1
        have ht6 := hok0.2.2
        rw [show eM (some (k, m, t)) = nI (t * 65536 + (8 * k + m + 1)) from rfl]
        refine Ex_aload_n d_rm_shade_41 rfl ?_
        refine Ex_iload_n d_rm_shade_42 rfl ?_
        refine Ex_iload_n d_rm_shade_43 rfl ?_
        refine Ex_iload_n d_rm_shade_44 rfl ?_
        refine Ex_iload d_rm_shade_45 rfl ?_
        refine Ex_pS1 d_rm_shade_47 pk_rm_shade_156 (rm_kindOf_s hk40 hm8 ht6) ?_
        refine Ex_iload d_rm_shade_50 rfl ?_
        refine Ex_pS1 d_rm_shade_52 pk_rm_shade_160 (rm_moveOf_s hk40 hm8 ht6) ?_
        refine Ex_iload d_rm_shade_55 rfl ?_
        refine Ex_i2s d_rm_shade_57 ?_
        rw [short_eq s]
        refine Ex_pS3 d_rm_shade_58 pk_rm_shade_166 (rm_cell_s hk40 hm8 (lo16_lt s)) ?_
        refine Ex_cV4 d_rm_shade_61 pk_rm_shade_208 (t_38 hs) (rm_sets_s (c := some (k, m, lo16 s)) hs hP hQ (show a < pNp P by omega) (show b < (pPat P a).length by omega) ⟨g3, g4⟩) ?_
        intro r h1 hA
        obtain ⟨v, rfl, hv⟩ := Ans_01 hA
        show Ex S rm_shade 64 [some (.ref 38), some (.int (nI (a))), some (.int (nI (b))), some (.int (J (j))), some (.int (s)), some (.int (nI (t * 65536 + (8 * k + m + 1))))] [.int (v)] h1 _
        refine Ex_zreturn d_rm_shade_64 rfl (by assumption) ?_
        refine Ans_map ?_ hA (fun x hx => ?_)
        · unfold okSh
          simp only [Int.toNat_natCast, hc0]
          exact ⟨fun z => ⟨by omega, by omega, ⟨_, rfl⟩, z⟩, fun z => z.2.2.2⟩
        · unfold setA shC
          simp only [Int.toNat_natCast, hc0]
          exact hx
      · refine Ex_iconst d_rm_shade_30 ic_0 ?_
        refine Ex_zreturn d_rm_shade_31 rfl (by decide) ?_
        refine Or.inl ⟨?_, rfl, rfl⟩
        rintro ⟨z1, z2, ⟨q, z3⟩, z5⟩
        first | omega | (simp only [Int.toNat_natCast] at z3; simp [z3] at hc17; done) | (simp only [Int.toNat_natCast] at z3; rw [hc0] at z3; cases z3; obtain ⟨k, m, t⟩ := q; have := hok0.1; have := hok0.2.1; have := hok0.2.2; have hn40 := hO.1; have := nI_inj32 (b := 0) (by omega) (by omega) hc27; omega)
