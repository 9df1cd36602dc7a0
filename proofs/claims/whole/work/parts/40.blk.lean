/-! The class's blocks of cells. -/
def bkOK (a b cap : Nat) : Prop := (a = 29 ∧ b = 30 ∧ cap = 400) ∨ (a = 31 ∧ b = 32 ∧ cap = 3600) ∨ (a = 33 ∧ b = 34 ∧ cap = 3600)
theorem Bob_of {h : mj_H} (hs : HT h) {a b cap : Nat} (hk : bkOK a b cap) : mT h a = some (10, 3) ∧ mT h b = some (0, cap) ∧ mR h a 2 = some b := by
  rcases hk with ⟨rfl, rfl, rfl⟩ | ⟨rfl, rfl, rfl⟩ | ⟨rfl, rfl, rfl⟩
  · exact ⟨t_29 hs, t_30 hs, hs.2 (29, 2, 30) (by decide)⟩
  · exact ⟨t_31 hs, t_32 hs, hs.2 (31, 2, 32) (by decide)⟩
  · exact ⟨t_33 hs, t_34 hs, hs.2 (33, 2, 34) (by decide)⟩
def Wbk (a b x k : Nat) : Prop := x = b ∨ (x = a ∧ (k = 0 ∨ k = 1))
theorem Wbk_st {a b cap : Nat} (hk : bkOK a b cap) : ∀ q ∈ statR, ¬ Wbk a b q.1 q.2.1 := by
  rcases hk with ⟨rfl, rfl, rfl⟩ | ⟨rfl, rfl, rfl⟩ | ⟨rfl, rfl, rfl⟩ <;> (unfold Wbk; decide)
theorem Wbk_0 {a b cap : Nat} (hk : bkOK a b cap) : ¬ Wbk a b 0 1000000000 := by unfold Wbk; unfold bkOK at hk; omega
def BkC (D : SG) (a b : Nat) (h : mj_H) : Prop := mI h a 0 = nI D.1 ∧ mI h a 1 = nI D.2.1 ∧ ∀ k, k < D.1 * D.2.1 → mI h b k = eA (D.2.2 k)
theorem BkC_fr {W : Nat → Nat → Prop} {D : SG} {a b cap : Nat} {h h' : mj_H} (hs : HT h) (hk : bkOK a b cap) (f : Fr W h h') (hw : ∀ x k, Wbk a b x k → ¬ W x k) (hD : BkC D a b h) : BkC D a b h' := by
  have hn := HT_n hs
  unfold bkOK at hk
  refine ⟨?_, ?_, fun k hk' => ?_⟩
  · rw [f.I (by omega) (hw _ _ (by unfold Wbk; omega))]; exact hD.1
  · rw [f.I (by omega) (hw _ _ (by unfold Wbk; omega))]; exact hD.2.1
  · rw [f.I (by omega) (hw _ _ (by unfold Wbk; omega))]; exact hD.2.2 k hk'
theorem isT_neg {c : Option Tl} (h : okA 40 c) : isT c = true ↔ ¬ eA c < 0 := by
  rcases eA_cases h with ⟨h1, h2⟩ | ⟨k, m, s, rfl, h1, h2, h3⟩
  · constructor
    · intro z
      rcases h2 with rfl | rfl <;> cases z
    · intro z
      exact absurd h1 z
  · exact ⟨fun _ => nI_nonneg (by omega), fun _ => rfl⟩
theorem bl_mayBeRegion_s {S : mj_S} {h : mj_H} {r c : Int} (hr : -2147483648 ≤ r ∧ r < 2147483648) (hc : -2147483648 ≤ c ∧ c < 2147483648) : Cl S bl_mayBeRegion [.int (J r), .int (J c)] h (Pu (.int (bI (decide (1 ≤ r ∧ r ≤ 20 ∧ 1 ≤ c ∧ c ≤ 20)))) h) := by
  show Ex S bl_mayBeRegion 0 [some (.int (J (r))), some (.int (J (c)))] [] h _
  refine Ex_iload_n d_bl_mayBeRegion_0 rfl ?_
  refine Ex_iconst d_bl_mayBeRegion_1 ic_1 ?_
  refine Ex_icmp_ltZ (r) ((1)) 26 d_bl_mayBeRegion_2 rfl rfl (by decide) (by omega) (by omega) (fun hc2 => ?_) (fun hc2 => ?_)
  · refine Ex_iconst d_bl_mayBeRegion_26 ic_0 ?_
    refine Ex_zreturn d_bl_mayBeRegion_27 rfl (by decide) ?_
    exact Pu_f (by omega)
  · refine Ex_iload_n d_bl_mayBeRegion_5 rfl ?_
    refine Ex_bipush d_bl_mayBeRegion_6 bp_20 ?_
    refine Ex_icmp_gtZ (r) ((20)) 26 d_bl_mayBeRegion_8 rfl rfl (by decide) (by omega) (by omega) (fun hc8 => ?_) (fun hc8 => ?_)
    · refine Ex_iconst d_bl_mayBeRegion_26 ic_0 ?_
      refine Ex_zreturn d_bl_mayBeRegion_27 rfl (by decide) ?_
      exact Pu_f (by omega)
    · refine Ex_iload_n d_bl_mayBeRegion_11 rfl ?_
      refine Ex_iconst d_bl_mayBeRegion_12 ic_1 ?_
      refine Ex_icmp_ltZ (c) ((1)) 26 d_bl_mayBeRegion_13 rfl rfl (by decide) (by omega) (by omega) (fun hc13 => ?_) (fun hc13 => ?_)
      · refine Ex_iconst d_bl_mayBeRegion_26 ic_0 ?_
        refine Ex_zreturn d_bl_mayBeRegion_27 rfl (by decide) ?_
        exact Pu_f (by omega)
      · refine Ex_iload_n d_bl_mayBeRegion_16 rfl ?_
        refine Ex_bipush d_bl_mayBeRegion_17 bp_20 ?_
        refine Ex_icmp_gtZ (c) ((20)) 26 d_bl_mayBeRegion_19 rfl rfl (by decide) (by omega) (by omega) (fun hc19 => ?_) (fun hc19 => ?_)
        · refine Ex_iconst d_bl_mayBeRegion_26 ic_0 ?_
          refine Ex_zreturn d_bl_mayBeRegion_27 rfl (by decide) ?_
          exact Pu_f (by omega)
        · refine Ex_iconst d_bl_mayBeRegion_22 ic_1 ?_
          refine Ex_goto 27 d_bl_mayBeRegion_23 rfl ?_
          refine Ex_zreturn d_bl_mayBeRegion_27 rfl (by decide) ?_
          exact Pu_t (by omega)
theorem bl_hasPlace_s {S : mj_S} {h : mj_H} (hs : HT h) {a b cap : Nat} (hk : bkOK a b cap) {R C : Nat} (h0 : mI h a 0 = nI R) (h1 : mI h a 1 = nI C) (hcap : R * C ≤ cap) {i j : Nat} (hi : i < R) (hj : j < C) : Cl S bl_hasPlace [.ref (a), .int (nI (i)), .int (nI (j))] h (Pu (.int (bI true)) h) := by
  show Ex S bl_hasPlace 0 [some (.ref (a)), some (.int (nI (i))), some (.int (nI (j)))] [] h _
  have hb := Bob_of hs hk
  have hc36 : cap ≤ 3600 := by unfold bkOK at hk; omega
  have hx := idx_lt hi hj
  have hR6 : R ≤ R * C := by have := Nat.le_mul_of_pos_right R (show 0 < C by omega); exact this
  have hC6 : C ≤ R * C := by have := Nat.le_mul_of_pos_left C (show 0 < R by omega); exact this
  refine Ex_iload_n d_bl_hasPlace_0 rfl ?_
  refine Ex_if_ltN (i) 44 d_bl_hasPlace_1 rfl rfl (by omega) (fun hc1 => ?_) (fun hc1 => ?_)
  · exfalso; omega
  · refine Ex_iload_n d_bl_hasPlace_4 rfl ?_
    refine Ex_aload_n d_bl_hasPlace_5 rfl ?_
    refine Ex_getIE d_bl_hasPlace_6 pf_bl_19 rfl hb.1 h0 ?_
    refine Ex_icmp_geN (i) (R) 44 d_bl_hasPlace_9 rfl rfl rfl (by omega) (by omega) (fun hc9 => ?_) (fun hc9 => ?_)
    · exfalso; omega
    · refine Ex_iload_n d_bl_hasPlace_12 rfl ?_
      refine Ex_if_ltN (j) 44 d_bl_hasPlace_13 rfl rfl (by omega) (fun hc13 => ?_) (fun hc13 => ?_)
      · exfalso; omega
      · refine Ex_iload_n d_bl_hasPlace_16 rfl ?_
        refine Ex_aload_n d_bl_hasPlace_17 rfl ?_
        refine Ex_getIE d_bl_hasPlace_18 pf_bl_23 rfl hb.1 h1 ?_
        refine Ex_icmp_geN (j) (C) 44 d_bl_hasPlace_21 rfl rfl rfl (by omega) (by omega) (fun hc21 => ?_) (fun hc21 => ?_)
        · exfalso; omega
        · refine Ex_iload_n d_bl_hasPlace_24 rfl ?_
          refine Ex_aload_n d_bl_hasPlace_25 rfl ?_
          refine Ex_getIE d_bl_hasPlace_26 pf_bl_23 rfl hb.1 h1 ?_
          refine Ex_imulN (i) (C) d_bl_hasPlace_29 rfl rfl ?_
          refine Ex_iload_n d_bl_hasPlace_30 rfl ?_
          refine Ex_iaddN (i * C) (j) d_bl_hasPlace_31 rfl rfl ?_
          refine Ex_aload_n d_bl_hasPlace_32 rfl ?_
          refine Ex_getR d_bl_hasPlace_33 pf_bl_13 rfl hb.1 (congrArg va_rf hb.2.2) ?_
          refine Ex_arraylength d_bl_hasPlace_36 hb.2.1 (by decide) ?_
          refine Ex_icmp_geN ((i * C) + j) (cap) 44 d_bl_hasPlace_37 rfl rfl rfl (by omega) (by omega) (fun hc37 => ?_) (fun hc37 => ?_)
          · exfalso; omega
          · refine Ex_iconst d_bl_hasPlace_40 ic_1 ?_
            refine Ex_goto 45 d_bl_hasPlace_41 rfl ?_
            refine Ex_zreturn d_bl_hasPlace_45 rfl (by decide) ?_
            exact ⟨rfl, rfl⟩
theorem bl_cellAt_s {S : mj_S} {h : mj_H} (hs : HT h) {a b cap : Nat} (hk : bkOK a b cap) {R C : Nat} (h0 : mI h a 0 = nI R) (h1 : mI h a 1 = nI C) (hcap : R * C ≤ cap) {i j : Nat} (hi : i < R) (hj : j < C) : Cl S bl_cellAt [.ref (a), .int (nI (i)), .int (nI (j))] h (Pu (.int (mI h b (i * C + j))) h) := by
  show Ex S bl_cellAt 0 [some (.ref (a)), some (.int (nI (i))), some (.int (nI (j)))] [] h _
  have hb := Bob_of hs hk
  have hc36 : cap ≤ 3600 := by unfold bkOK at hk; omega
  have hx := idx_lt hi hj
  refine Ex_aload_n d_bl_cellAt_0 rfl ?_
  refine Ex_iload_n d_bl_cellAt_1 rfl ?_
  refine Ex_iload_n d_bl_cellAt_2 rfl ?_
  refine Ex_pV2 (v := .int (bI (true))) d_bl_cellAt_3 pk_bl_cellAt_26 hb.1 (bl_hasPlace_s hs hk h0 h1 hcap hi hj) ?_
  refine Ex_if_eqB (true) 25 d_bl_cellAt_6 rfl rfl (fun hc6 => ?_) (fun hc6 => ?_)
  · cases hc6
  · refine Ex_aload_n d_bl_cellAt_9 rfl ?_
    refine Ex_getR d_bl_cellAt_10 pf_bl_13 rfl hb.1 (congrArg va_rf hb.2.2) ?_
    refine Ex_iload_n d_bl_cellAt_13 rfl ?_
    refine Ex_aload_n d_bl_cellAt_14 rfl ?_
    refine Ex_getIE d_bl_cellAt_15 pf_bl_23 rfl hb.1 h1 ?_
    refine Ex_imulN (i) (C) d_bl_cellAt_18 rfl rfl ?_
    refine Ex_iload_n d_bl_cellAt_19 rfl ?_
    refine Ex_iaddN (i * C) (j) d_bl_cellAt_20 rfl rfl ?_
    refine Ex_ialoadN (a := (i * C) + j) d_bl_cellAt_21 hb.2.1 rfl (by omega) (by omega) rfl ?_
    refine Ex_goto 27 d_bl_cellAt_22 rfl ?_
    refine Ex_ireturn d_bl_cellAt_27 rfl ?_
    exact ⟨rfl, rfl⟩
theorem bl_setCell_s {S : mj_S} {h : mj_H} (hs : HT h) {a b cap : Nat} (hk : bkOK a b cap) {R C : Nat} (h0 : mI h a 0 = nI R) (h1 : mI h a 1 = nI C) (hcap : R * C ≤ cap) {i j : Nat} (hi : i < R) (hj : j < C) (v : Int32) : Cl S bl_setCell [.ref (a), .int (nI (i)), .int (nI (j)), .int (v)] h (fun r h' => r = none ∧ h' = wI h b (i * C + j) v) := by
  show Ex S bl_setCell 0 [some (.ref (a)), some (.int (nI (i))), some (.int (nI (j))), some (.int (v))] [] h _
  have hb := Bob_of hs hk
  have hc36 : cap ≤ 3600 := by unfold bkOK at hk; omega
  have hx := idx_lt hi hj
  refine Ex_aload_n d_bl_setCell_0 rfl ?_
  refine Ex_iload_n d_bl_setCell_1 rfl ?_
  refine Ex_iload_n d_bl_setCell_2 rfl ?_
  refine Ex_pV2 (v := .int (bI (true))) d_bl_setCell_3 pk_bl_setCell_26 hb.1 (bl_hasPlace_s hs hk h0 h1 hcap hi hj) ?_
  refine Ex_if_eqB (true) 23 d_bl_setCell_6 rfl rfl (fun hc6 => ?_) (fun hc6 => ?_)
  · cases hc6
  · refine Ex_aload_n d_bl_setCell_9 rfl ?_
    refine Ex_getR d_bl_setCell_10 pf_bl_13 rfl hb.1 (congrArg va_rf hb.2.2) ?_
    refine Ex_iload_n d_bl_setCell_13 rfl ?_
    refine Ex_aload_n d_bl_setCell_14 rfl ?_
    refine Ex_getIE d_bl_setCell_15 pf_bl_23 rfl hb.1 h1 ?_
    refine Ex_imulN (i) (C) d_bl_setCell_18 rfl rfl ?_
    refine Ex_iload_n d_bl_setCell_19 rfl ?_
    refine Ex_iaddN (i * C) (j) d_bl_setCell_20 rfl rfl ?_
    refine Ex_iload_n d_bl_setCell_21 rfl ?_
    refine Ex_iastoreN (a := (i * C) + j) d_bl_setCell_22 hb.2.1 rfl (by omega) (by omega) ?_
    refine Ex_return d_bl_setCell_23 rfl ?_
    exact ⟨rfl, rfl⟩
theorem bl_isNothing_s {S : mj_S} {h : mj_H} (hs : HT h) {a b cap : Nat} (hk : bkOK a b cap) {D : SG} (hD : BkC D a b h) (hd : D.1 ≤ 3600) : Cl S bl_isNothing [.ref (a)] h (Pu (.int (bI (decide (D.1 = 0)))) h) := by
  show Ex S bl_isNothing 0 [some (.ref (a))] [] h _
  refine Ex_aload_n d_bl_isNothing_0 rfl ?_
  refine Ex_getIE d_bl_isNothing_1 pf_bl_19 rfl (Bob_of hs hk).1 hD.1 ?_
  refine Ex_if_neN (D.1) 11 d_bl_isNothing_4 rfl rfl (by omega) (fun hc4 => ?_) (fun hc4 => ?_)
  · refine Ex_iconst d_bl_isNothing_11 ic_0 ?_
    refine Ex_zreturn d_bl_isNothing_12 rfl (by decide) ?_
    exact Pu_f hc4
  · refine Ex_iconst d_bl_isNothing_7 ic_1 ?_
    refine Ex_goto 12 d_bl_isNothing_8 rfl ?_
    refine Ex_zreturn d_bl_isNothing_12 rfl (by decide) ?_
    exact Pu_t hc4
theorem bl_filledCells_L1 {S : mj_S} {Q : Option Value → mj_H → Prop} {h : mj_H} (hs : HT h) {a b cap : Nat} (hk : bkOK a b cap) {D : SG} (hD : BkC D a b h) (hcap : D.1 * D.2.1 ≤ cap) (hO : ∀ k, k < D.1 * D.2.1 → okA 40 (D.2.2 k)) (hd1 : D.1 ≤ 3600) (hd2 : D.2.1 ≤ 3600) {i : Nat} (hi : i < D.1)
    (kx : Ex S bl_filledCells 45 [some (.ref (a)), some (.int (nI (cntT D.2.2 (i * D.2.1 + D.2.1)))), some (.int (nI (i))), some (.int (nI (D.2.1)))] [] h Q) : ∀ d j : Nat, j + d = D.2.1 → Ex S bl_filledCells 14 [some (.ref (a)), some (.int (nI (cntT D.2.2 (i * D.2.1 + j)))), some (.int (nI (i))), some (.int (nI (j)))] [] h Q := by
  have hb := Bob_of hs hk
  have hc36 : cap ≤ 3600 := by unfold bkOK at hk; omega
  intro d
  induction d with
  | zero =>
    intro j hkk
    obtain rfl : D.2.1 = j := by omega
    refine Ex_iload_n d_bl_filledCells_14 rfl ?_
    refine Ex_aload_n d_bl_filledCells_15 rfl ?_
    refine Ex_getIE d_bl_filledCells_16 pf_bl_23 rfl hb.1 hD.2.1 ?_
    refine Ex_icmp_geN (D.2.1) (D.2.1) 45 d_bl_filledCells_19 rfl rfl rfl (by omega) (by omega) (fun hc19 => ?_) (fun hc19 => ?_)
    · exact kx
    · exfalso; omega
  | succ d ih =>
    intro j hkk
    have hx := idx_lt hi (show j < D.2.1 by omega)
    have hcl := cntT_le D.2.2 (i * D.2.1 + j)
    refine Ex_iload_n d_bl_filledCells_14 rfl ?_
    refine Ex_aload_n d_bl_filledCells_15 rfl ?_
    refine Ex_getIE d_bl_filledCells_16 pf_bl_23 rfl hb.1 hD.2.1 ?_
    refine Ex_icmp_geN (j) (D.2.1) 45 d_bl_filledCells_19 rfl rfl rfl (by omega) (by omega) (fun hc19 => ?_) (fun hc19 => ?_)
    · exfalso; omega
    · refine Ex_iload_n d_bl_filledCells_22 rfl ?_
      refine Ex_aload_n d_bl_filledCells_23 rfl ?_
      refine Ex_iload_n d_bl_filledCells_24 rfl ?_
      refine Ex_iload_n d_bl_filledCells_25 rfl ?_
      refine Ex_pV2 (v := .int (eA (D.2.2 (i * D.2.1 + j)))) d_bl_filledCells_26 pk_bl_filledCells_32 hb.1 (by rw [← hD.2.2 _ hx]; exact bl_cellAt_s hs hk hD.1 hD.2.1 hcap hi (by omega)) ?_
      refine Ex_if_lt 36 d_bl_filledCells_29 rfl (fun hc29 => ?_) (fun hc29 => ?_)
      · refine Ex_iconst d_bl_filledCells_36 ic_0 ?_
        refine Ex_iaddN (cntT D.2.2 (i * D.2.1 + j)) (0) d_bl_filledCells_37 rfl rfl ?_
        refine Ex_istore_n [some (.ref (a)), some (.int (nI ((cntT D.2.2 (i * D.2.1 + j)) + 0))), some (.int (nI (i))), some (.int (nI (j)))] d_bl_filledCells_38 (Nat.le_of_ble_eq_true rfl) rfl ?_
        refine Ex_iincN (j) 1 [some (.ref (a)), some (.int (nI ((cntT D.2.2 (i * D.2.1 + j)) + 0))), some (.int (nI (i))), some (.int (nI (j + 1)))] d_bl_filledCells_39 rfl rfl rfl rfl ?_
        refine Ex_goto 14 d_bl_filledCells_42 rfl ?_
        have z := ih (j + 1) (by omega)
        rw [show cntT D.2.2 (i * D.2.1 + (j + 1)) = cntT D.2.2 (i * D.2.1 + j) + 0 by
          show cntT D.2.2 (i * D.2.1 + j) + (if isT (D.2.2 (i * D.2.1 + j)) = true then 1 else 0) = _
          rw [if_neg (fun q => (isT_neg (hO _ hx)).mp q hc29)]] at z
        exact z
      · refine Ex_iconst d_bl_filledCells_32 ic_1 ?_
        refine Ex_goto 37 d_bl_filledCells_33 rfl ?_
        refine Ex_iaddN (cntT D.2.2 (i * D.2.1 + j)) (1) d_bl_filledCells_37 rfl rfl ?_
        refine Ex_istore_n [some (.ref (a)), some (.int (nI ((cntT D.2.2 (i * D.2.1 + j)) + 1))), some (.int (nI (i))), some (.int (nI (j)))] d_bl_filledCells_38 (Nat.le_of_ble_eq_true rfl) rfl ?_
        refine Ex_iincN (j) 1 [some (.ref (a)), some (.int (nI ((cntT D.2.2 (i * D.2.1 + j)) + 1))), some (.int (nI (i))), some (.int (nI (j + 1)))] d_bl_filledCells_39 rfl rfl rfl rfl ?_
        refine Ex_goto 14 d_bl_filledCells_42 rfl ?_
        have z := ih (j + 1) (by omega)
        rw [show cntT D.2.2 (i * D.2.1 + (j + 1)) = cntT D.2.2 (i * D.2.1 + j) + 1 by
          show cntT D.2.2 (i * D.2.1 + j) + (if isT (D.2.2 (i * D.2.1 + j)) = true then 1 else 0) = _
          rw [if_pos ((isT_neg (hO _ hx)).mpr hc29)]] at z
        exact z
theorem bl_filledCells_L2 {S : mj_S} {Q : Option Value → mj_H → Prop} {h : mj_H} (hs : HT h) {a b cap : Nat} (hk : bkOK a b cap) {D : SG} (hD : BkC D a b h) (hcap : D.1 * D.2.1 ≤ cap) (hO : ∀ k, k < D.1 * D.2.1 → okA 40 (D.2.2 k)) (hd1 : D.1 ≤ 3600) (hd2 : D.2.1 ≤ 3600)
    (kx : Ex S bl_filledCells 51 [some (.ref (a)), some (.int (nI (cntT D.2.2 (D.1 * D.2.1)))), some (.int (nI (D.1))), none] [] h Q) : ∀ d i : Nat, i + d = D.1 → Ex S bl_filledCells 4 [some (.ref (a)), some (.int (nI (cntT D.2.2 (i * D.2.1)))), some (.int (nI (i))), none] [] h Q := by
  have hb := Bob_of hs hk
  have hc36 : cap ≤ 3600 := by unfold bkOK at hk; omega
  intro d
  induction d with
  | zero =>
    intro i hkk
    obtain rfl : D.1 = i := by omega
    refine Ex_iload_n d_bl_filledCells_4 rfl ?_
    refine Ex_aload_n d_bl_filledCells_5 rfl ?_
    refine Ex_getIE d_bl_filledCells_6 pf_bl_19 rfl hb.1 hD.1 ?_
    refine Ex_icmp_geN (D.1) (D.1) 51 d_bl_filledCells_9 rfl rfl rfl (by omega) (by omega) (fun hc9 => ?_) (fun hc9 => ?_)
    · exact kx
    · exfalso; omega
  | succ d ih =>
    intro i hkk
    refine Ex_iload_n d_bl_filledCells_4 rfl ?_
    refine Ex_aload_n d_bl_filledCells_5 rfl ?_
    refine Ex_getIE d_bl_filledCells_6 pf_bl_19 rfl hb.1 hD.1 ?_
    refine Ex_icmp_geN (i) (D.1) 51 d_bl_filledCells_9 rfl rfl rfl (by omega) (by omega) (fun hc9 => ?_) (fun hc9 => ?_)
    · exfalso; omega
    · refine Ex_iconst d_bl_filledCells_12 ic_0 ?_
      refine Ex_istore_n [some (.ref (a)), some (.int (nI (cntT D.2.2 (i * D.2.1)))), some (.int (nI (i))), some (.int (0))] d_bl_filledCells_13 (Nat.le_of_ble_eq_true rfl) rfl ?_
      refine bl_filledCells_L1 hs hk hD hcap hO hd1 hd2 (show i < D.1 by omega) ?_ D.2.1 0 (by omega)
      refine Ex_iincN (i) 1 [some (.ref (a)), some (.int (nI (cntT D.2.2 (i * D.2.1 + D.2.1)))), some (.int (nI (i + 1))), some (.int (nI (D.2.1)))] d_bl_filledCells_45 rfl rfl rfl rfl ?_
      refine Ex_goto 4 d_bl_filledCells_48 rfl ?_
      refine Ex_forget (ls' := [some (.ref (a)), some (.int (nI (cntT D.2.2 (i * D.2.1 + D.2.1)))), some (.int (nI (i + 1))), none]) (sub_s (sub_s (sub_s (sub_n sub_0)))) ?_
      have z := ih (i + 1) (by omega)
      rw [show (i + 1) * D.2.1 = i * D.2.1 + D.2.1 by rw [Nat.add_mul, Nat.one_mul]] at z
      exact z
theorem bl_filledCells_s {S : mj_S} {h : mj_H} (hs : HT h) {a b cap : Nat} (hk : bkOK a b cap) {D : SG} (hD : BkC D a b h) (hcap : D.1 * D.2.1 ≤ cap) (hO : ∀ k, k < D.1 * D.2.1 → okA 40 (D.2.2 k)) (hd1 : D.1 ≤ 3600) (hd2 : D.2.1 ≤ 3600) : Cl S bl_filledCells [.ref (a)] h (Pu (.int (nI (cntT D.2.2 (D.1 * D.2.1)))) h) := by
  show Ex S bl_filledCells 0 [some (.ref (a)), none, none, none] [] h _
  refine Ex_iconst d_bl_filledCells_0 ic_0 ?_
  refine Ex_istore_n [some (.ref (a)), some (.int (0)), none, none] d_bl_filledCells_1 (Nat.le_of_ble_eq_true rfl) rfl ?_
  refine Ex_iconst d_bl_filledCells_2 ic_0 ?_
  refine Ex_istore_n [some (.ref (a)), some (.int (0)), some (.int (0)), none] d_bl_filledCells_3 (Nat.le_of_ble_eq_true rfl) rfl ?_
  have z0 := bl_filledCells_L2 (S := S) (Q := Pu (.int (nI (cntT D.2.2 (D.1 * D.2.1)))) h) hs hk hD hcap hO hd1 hd2 ?_ D.1 0 (by omega)
  · rw [Nat.zero_mul] at z0
    exact z0
  · refine Ex_iload_n d_bl_filledCells_51 rfl ?_
    refine Ex_ireturn d_bl_filledCells_52 rfl ?_
    exact ⟨rfl, rfl⟩
def tkF (P : SP) (l : List Nat) (u v : Int) (C k : Nat) : Option Tl := lAt P l (u + ((k / C : Nat) : Int)) (v + ((k % C : Nat) : Int))
theorem bl_takePattern_L1 {S : mj_S} {Q : Option Value → mj_H → Prop} {h : mj_H} (hs : HT h) {a b cap : Nat} (hk : bkOK a b cap) {P : SP} {Y : OW} (hR : RwC P Y h) {n : Nat} (hQ : PO n P) {x y : Nat} {l : List Nat} (hB : Pob h x y l) (hl : okL (pMd P) l) (hx7 : 74 ≤ x) (hy7 : 74 ≤ y) {u v : Int} (hu : -2147483648 ≤ u ∧ u < 2147483648) (hv : -2147483648 ≤ v ∧ v < 2147483648) {R C : Nat} (hcap : R * C ≤ cap) (hR6 : R ≤ 60) (hC6 : C ≤ 60) {i : Nat} (hi : i < R)
    (kx : ∀ h1 : mj_H, (Fr (Wbk a b) h h1 ∧ mI h1 a 0 = nI R ∧ mI h1 a 1 = nI C ∧ ∀ k, k < i * C + C → mI h1 b k = eA (tkF P l u v C k)) → Ex S bl_takePattern 66 [some (.ref (a)), some (.ref (x)), some (.int (J (u))), some (.int (J (v))), some (.int (nI (R))), some (.int (nI (C))), some (.int (nI (i))), some (.int (nI (C)))] [] h1 Q) : ∀ d j : Nat, j + d = C → ∀ h1 : mj_H, (Fr (Wbk a b) h h1 ∧ mI h1 a 0 = nI R ∧ mI h1 a 1 = nI C ∧ ∀ k, k < i * C + j → mI h1 b k = eA (tkF P l u v C k)) → Ex S bl_takePattern 27 [some (.ref (a)), some (.ref (x)), some (.int (J (u))), some (.int (J (v))), some (.int (nI (R))), some (.int (nI (C))), some (.int (nI (i))), some (.int (nI (j)))] [] h1 Q := by
  intro d
  induction d with
  | zero =>
    intro j hkk h1 hI
    obtain rfl : C = j := by omega
    have f1 := hI.1
    have hs1 : HT h1 := f1.ht hs (Wbk_st hk)
    have hb1 := Bob_of hs1 hk
    refine Ex_iload d_bl_takePattern_27 rfl ?_
    refine Ex_aload_n d_bl_takePattern_29 rfl ?_
    refine Ex_getIE d_bl_takePattern_30 pf_bl_23 rfl hb1.1 hI.2.2.1 ?_
    refine Ex_icmp_geN (C) (C) 66 d_bl_takePattern_33 rfl rfl rfl (by omega) (by omega) (fun hc33 => ?_) (fun hc33 => ?_)
    · exact kx h1 hI
    · exfalso; omega
  | succ d ih =>
    intro j hkk h1 hI
    have f1 := hI.1
    have hs1 : HT h1 := f1.ht hs (Wbk_st hk)
    have hb1 := Bob_of hs1 hk
    have hB1 : Pob h1 x y l := Pob_fr f1 (fun k => by unfold Wbk; unfold bkOK at hk; omega) (fun k => by unfold Wbk; unfold bkOK at hk; omega) hB
    have hR1 : RwC P Y h1 := RwC_fr hs f1 (by intro a k; unfold WRc Wbk; unfold bkOK at hk; omega) OwE.rf hR
    have hdm := idx_dm (i := i) (show j < C by omega)
    refine Ex_iload d_bl_takePattern_27 rfl ?_
    refine Ex_aload_n d_bl_takePattern_29 rfl ?_
    refine Ex_getIE d_bl_takePattern_30 pf_bl_23 rfl hb1.1 hI.2.2.1 ?_
    refine Ex_icmp_geN (j) (C) 66 d_bl_takePattern_33 rfl rfl rfl (by omega) (by omega) (fun hc33 => ?_) (fun hc33 => ?_)
    · exfalso; omega
    · refine Ex_aload_n d_bl_takePattern_36 rfl ?_
      refine Ex_iload d_bl_takePattern_37 rfl ?_
      refine Ex_iload d_bl_takePattern_39 rfl ?_
      refine Ex_aload_n d_bl_takePattern_41 rfl ?_
      refine Ex_iload_n d_bl_takePattern_42 rfl ?_
      refine Ex_i2lZ (u) d_bl_takePattern_43 rfl (by omega) ?_
      refine Ex_iload d_bl_takePattern_44 rfl ?_
      refine Ex_i2lZ (((i : Nat) : Int)) d_bl_takePattern_46 (nIJ _) (by omega) ?_
      refine Ex_laddZ (u) (((i : Nat) : Int)) d_bl_takePattern_47 rfl rfl ?_
      refine Ex_iload_n d_bl_takePattern_48 rfl ?_
      refine Ex_i2lZ (v) d_bl_takePattern_49 rfl (by omega) ?_
      refine Ex_iload d_bl_takePattern_50 rfl ?_
      refine Ex_i2lZ (((j : Nat) : Int)) d_bl_takePattern_52 (nIJ _) (by omega) ?_
      refine Ex_laddZ (v) (((j : Nat) : Int)) d_bl_takePattern_53 rfl rfl ?_
      refine Ex_pV2 (v := .int (eA (tkF P l u v C (i * C + j)))) d_bl_takePattern_54 pk_bl_takePattern_35 hB1.1.1 (by unfold tkF; rw [hdm.1, hdm.2]; exact pa_cellAt_s hs1 hR1 hQ hB1 hl (by omega) (by omega)) ?_
      refine Ex_cV3 d_bl_takePattern_57 pk_bl_takePattern_40 hb1.1 (bl_setCell_s hs1 hk hI.2.1 hI.2.2.1 hcap hi (by omega) _) ?_
      rintro rv h2 ⟨rfl, rfl⟩
      show Ex S bl_takePattern 60 [some (.ref (a)), some (.ref (x)), some (.int (J (u))), some (.int (J (v))), some (.int (nI (R))), some (.int (nI (C))), some (.int (nI (i))), some (.int (nI (j)))] [] (wI h1 b (i * C + j) (eA (tkF P l u v C (i * C + j)))) _
      refine Ex_iincN (j) 1 [some (.ref (a)), some (.ref (x)), some (.int (J (u))), some (.int (J (v))), some (.int (nI (R))), some (.int (nI (C))), some (.int (nI (i))), some (.int (nI (j + 1)))] d_bl_takePattern_60 rfl rfl rfl rfl ?_
      refine Ex_goto 27 d_bl_takePattern_63 rfl ?_
      refine ih (j + 1) (by omega) _ ⟨Fr.sI f1 (Or.inl rfl), by rw [mI_oth (Or.inl (by unfold bkOK at hk; omega))]; exact hI.2.1, by rw [mI_oth (Or.inl (by unfold bkOK at hk; omega))]; exact hI.2.2.1, fun t ht => ?_⟩
      by_cases htk : t = i * C + j
      · subst htk
        rw [mI_self]
      · rw [mI_oth (Or.inr htk)]
        exact hI.2.2.2 t (by omega)
theorem bl_takePattern_L2 {S : mj_S} {Q : Option Value → mj_H → Prop} {h : mj_H} (hs : HT h) {a b cap : Nat} (hk : bkOK a b cap) {P : SP} {Y : OW} (hR : RwC P Y h) {n : Nat} (hQ : PO n P) {x y : Nat} {l : List Nat} (hB : Pob h x y l) (hl : okL (pMd P) l) (hx7 : 74 ≤ x) (hy7 : 74 ≤ y) {u v : Int} (hu : -2147483648 ≤ u ∧ u < 2147483648) (hv : -2147483648 ≤ v ∧ v < 2147483648) {R C : Nat} (hcap : R * C ≤ cap) (hR6 : R ≤ 60) (hC6 : C ≤ 60)
    (kx : ∀ h1 : mj_H, (Fr (Wbk a b) h h1 ∧ mI h1 a 0 = nI R ∧ mI h1 a 1 = nI C ∧ ∀ k, k < R * C → mI h1 b k = eA (tkF P l u v C k)) → Ex S bl_takePattern 72 [some (.ref (a)), some (.ref (x)), some (.int (J (u))), some (.int (J (v))), some (.int (nI (R))), some (.int (nI (C))), some (.int (nI (R))), none] [] h1 Q) : ∀ d i : Nat, i + d = R → ∀ h1 : mj_H, (Fr (Wbk a b) h h1 ∧ mI h1 a 0 = nI R ∧ mI h1 a 1 = nI C ∧ ∀ k, k < i * C → mI h1 b k = eA (tkF P l u v C k)) → Ex S bl_takePattern 15 [some (.ref (a)), some (.ref (x)), some (.int (J (u))), some (.int (J (v))), some (.int (nI (R))), some (.int (nI (C))), some (.int (nI (i))), none] [] h1 Q := by
  intro d
  induction d with
  | zero =>
    intro i hkk h1 hI
    obtain rfl : R = i := by omega
    have f1 := hI.1
    have hs1 : HT h1 := f1.ht hs (Wbk_st hk)
    have hb1 := Bob_of hs1 hk
    refine Ex_iload d_bl_takePattern_15 rfl ?_
    refine Ex_aload_n d_bl_takePattern_17 rfl ?_
    refine Ex_getIE d_bl_takePattern_18 pf_bl_19 rfl hb1.1 hI.2.1 ?_
    refine Ex_icmp_geN (R) (R) 72 d_bl_takePattern_21 rfl rfl rfl (by omega) (by omega) (fun hc21 => ?_) (fun hc21 => ?_)
    · exact kx h1 hI
    · exfalso; omega
  | succ d ih =>
    intro i hkk h1 hI
    have f1 := hI.1
    have hs1 : HT h1 := f1.ht hs (Wbk_st hk)
    have hb1 := Bob_of hs1 hk
    refine Ex_iload d_bl_takePattern_15 rfl ?_
    refine Ex_aload_n d_bl_takePattern_17 rfl ?_
    refine Ex_getIE d_bl_takePattern_18 pf_bl_19 rfl hb1.1 hI.2.1 ?_
    refine Ex_icmp_geN (i) (R) 72 d_bl_takePattern_21 rfl rfl rfl (by omega) (by omega) (fun hc21 => ?_) (fun hc21 => ?_)
    · exfalso; omega
    · refine Ex_iconst d_bl_takePattern_24 ic_0 ?_
      refine Ex_istore [some (.ref (a)), some (.ref (x)), some (.int (J (u))), some (.int (J (v))), some (.int (nI (R))), some (.int (nI (C))), some (.int (nI (i))), some (.int (0))] d_bl_takePattern_25 (Nat.le_of_ble_eq_true rfl) rfl ?_
      refine bl_takePattern_L1 hs hk hR hQ hB hl hx7 hy7 hu hv hcap hR6 hC6 (show i < R by omega) (fun h2 hI2 => ?_) C 0 (by omega) h1 hI
      refine Ex_iincN (i) 1 [some (.ref (a)), some (.ref (x)), some (.int (J (u))), some (.int (J (v))), some (.int (nI (R))), some (.int (nI (C))), some (.int (nI (i + 1))), some (.int (nI (C)))] d_bl_takePattern_66 rfl rfl rfl rfl ?_
      refine Ex_goto 15 d_bl_takePattern_69 rfl ?_
      refine Ex_forget (ls' := [some (.ref (a)), some (.ref (x)), some (.int (J (u))), some (.int (J (v))), some (.int (nI (R))), some (.int (nI (C))), some (.int (nI (i + 1))), none]) (sub_s (sub_s (sub_s (sub_s (sub_s (sub_s (sub_s (sub_n sub_0)))))))) ?_
      refine ih (i + 1) (by omega) h2 ⟨hI2.1, hI2.2.1, hI2.2.2.1, fun k hk => hI2.2.2.2 k ?_⟩
      rw [Nat.add_mul, Nat.one_mul] at hk
      exact hk
theorem bl_takePattern_s {S : mj_S} {h : mj_H} (hs : HT h) {a b cap : Nat} (hk : bkOK a b cap) {P : SP} {Y : OW} (hR : RwC P Y h) {n : Nat} (hQ : PO n P) {x y : Nat} {l : List Nat} (hB : Pob h x y l) (hl : okL (pMd P) l) (hx7 : 74 ≤ x) (hy7 : 74 ≤ y) {u v : Int} (hu : -2147483648 ≤ u ∧ u < 2147483648) (hv : -2147483648 ≤ v ∧ v < 2147483648) {R C : Nat} (hcap : R * C ≤ cap) (hR6 : R ≤ 60) (hC6 : C ≤ 60) : Cl S bl_takePattern [.ref (a), .ref (x), .int (J (u)), .int (J (v)), .int (nI (R)), .int (nI (C))] h (fun r h' => r = none ∧ BkC (R, C, tkF P l u v C) a b h' ∧ Fr (Wbk a b) h h') := by
  show Ex S bl_takePattern 0 [some (.ref (a)), some (.ref (x)), some (.int (J (u))), some (.int (J (v))), some (.int (nI (R))), some (.int (nI (C))), none, none] [] h _
  refine Ex_aload_n d_bl_takePattern_0 rfl ?_
  refine Ex_iload d_bl_takePattern_1 rfl ?_
  refine Ex_putI d_bl_takePattern_3 pf_bl_19 (Or.inl rfl) (Bob_of hs hk).1 (Or.inl rfl) ?_
  refine Ex_aload_n d_bl_takePattern_6 rfl ?_
  refine Ex_iload d_bl_takePattern_7 rfl ?_
  refine Ex_putI d_bl_takePattern_9 pf_bl_23 (Or.inl rfl) (Bob_of hs hk).1 (Or.inl rfl) ?_
  refine Ex_iconst d_bl_takePattern_12 ic_0 ?_
  refine Ex_istore [some (.ref (a)), some (.ref (x)), some (.int (J (u))), some (.int (J (v))), some (.int (nI (R))), some (.int (nI (C))), some (.int (0)), none] d_bl_takePattern_13 (Nat.le_of_ble_eq_true rfl) rfl ?_
  refine bl_takePattern_L2 hs hk hR hQ hB hl hx7 hy7 hu hv hcap hR6 hC6 (fun h1 hI => ?_) R 0 (by omega) _ ⟨Fr.sI (Fr.sI Fr.rf (Or.inr ⟨rfl, Or.inl rfl⟩)) (Or.inr ⟨rfl, Or.inr rfl⟩), by rw [mI_oth (Or.inr (by decide)), mI_self], mI_self _ _ _ _, fun k hk => absurd hk (by omega)⟩
  refine Ex_return d_bl_takePattern_72 rfl ?_
  exact ⟨rfl, ⟨hI.2.1, hI.2.2.1, hI.2.2.2⟩, hI.1⟩
def dK (m C j : Nat) : Nat := if 4 ≤ m then C - 1 - j else j
def dI (m R C i j : Nat) : Nat := if m % 4 = 0 then i else if m % 4 = 1 then dK m C j else if m % 4 = 2 then R - 1 - i else C - 1 - dK m C j
def dJ (m R C i j : Nat) : Nat := if m % 4 = 0 then dK m C j else if m % 4 = 1 then R - 1 - i else if m % 4 = 2 then C - 1 - dK m C j else i
theorem fr_d {m R C i j : Nat} (hi : i < R) (hj : j < C) : frI m R C (dI m R C i j) (dJ m R C i j) = i ∧ frJ m R C (dI m R C i j) (dJ m R C i j) = j ∧ dI m R C i j < tR m R C ∧ dJ m R C i j < tC m R C := by
  have h4 : m % 4 = 0 ∨ m % 4 = 1 ∨ m % 4 = 2 ∨ m % 4 = 3 := by omega
  unfold frJ frX frI dI dJ dK tR tC
  rcases h4 with z | z | z | z
  · rw [if_pos (show m % 2 = 0 by omega), if_pos (show m % 2 = 0 by omega)]
    by_cases hb : 4 ≤ m <;> (refine ⟨?_, ?_, ?_, ?_⟩ <;> simp [z, hb] <;> omega)
  · rw [if_neg (show ¬ m % 2 = 0 by omega), if_neg (show ¬ m % 2 = 0 by omega)]
    by_cases hb : 4 ≤ m <;> (refine ⟨?_, ?_, ?_, ?_⟩ <;> simp [z, hb] <;> omega)
  · rw [if_pos (show m % 2 = 0 by omega), if_pos (show m % 2 = 0 by omega)]
    by_cases hb : 4 ≤ m <;> (refine ⟨?_, ?_, ?_, ?_⟩ <;> simp [z, hb] <;> omega)
  · rw [if_neg (show ¬ m % 2 = 0 by omega), if_neg (show ¬ m % 2 = 0 by omega)]
    by_cases hb : 4 ≤ m <;> (refine ⟨?_, ?_, ?_, ?_⟩ <;> simp [z, hb] <;> omega)
theorem d_fr {m R C i j : Nat} (hi : i < tR m R C) (hj : j < tC m R C) : dI m R C (frI m R C i j) (frJ m R C i j) = i ∧ dJ m R C (frI m R C i j) (frJ m R C i j) = j := by
  unfold tR at hi
  unfold tC at hj
  have h4 : m % 4 = 0 ∨ m % 4 = 1 ∨ m % 4 = 2 ∨ m % 4 = 3 := by omega
  unfold frJ frX frI dI dJ dK
  rcases h4 with z | z | z | z
  · rw [if_pos (by omega)] at hi hj
    by_cases hb : 4 ≤ m <;> (refine ⟨?_, ?_⟩ <;> simp [z, hb] <;> omega)
  · rw [if_neg (by omega)] at hi hj
    by_cases hb : 4 ≤ m <;> (refine ⟨?_, ?_⟩ <;> simp [z, hb] <;> omega)
  · rw [if_pos (by omega)] at hi hj
    by_cases hb : 4 ≤ m <;> (refine ⟨?_, ?_⟩ <;> simp [z, hb] <;> omega)
  · rw [if_neg (by omega)] at hi hj
    by_cases hb : 4 ≤ m <;> (refine ⟨?_, ?_⟩ <;> simp [z, hb] <;> omega)
def toK (m R C t : Nat) : Nat := dI m R C (t / C) (t % C) * tC m R C + dJ m R C (t / C) (t % C)
theorem from_to {m R C t : Nat} (ht : t < R * C) : fromK m R C (toK m R C t) = t ∧ toK m R C t < R * C := by
  obtain ⟨h1, h2, -⟩ := dm_lt ht
  obtain ⟨a1, a2, a3, a4⟩ := fr_d (m := m) h1 h2
  constructor
  · unfold fromK toK
    obtain ⟨b1, b2⟩ := idx_dm (i := dI m R C (t / C) (t % C)) a4
    rw [b1, b2, a1, a2, dm_eq]
  · rw [← t_mul m]
    exact idx_lt a3 a4
theorem to_from {m R C k : Nat} (hk : k < R * C) : toK m R C (fromK m R C k) = k := by
  rw [← t_mul m] at hk
  obtain ⟨h1, h2, -⟩ := dm_lt hk
  obtain ⟨a1, a2⟩ := d_fr h1 h2
  obtain ⟨c1, c2⟩ := fr_lt h1 h2
  unfold toK fromK
  obtain ⟨b1, b2⟩ := idx_dm (i := frI m R C (k / tC m R C) (k % tC m R C)) c2
  rw [b1, b2, a1, a2, dm_eq]
theorem to_inj {m R C s t : Nat} (hs : s < R * C) (ht : t < R * C) (h : toK m R C s = toK m R C t) : s = t := by
  rw [← (from_to (m := m) hs).1, h, (from_to (m := m) ht).1]
theorem bl_takeMoved_L1 {S : mj_S} {Q : Option Value → mj_H → Prop} {h : mj_H} (hs : HT h) {a b cap a2 b2 cap2 : Nat} (hk : bkOK a b cap) (hk2 : bkOK a2 b2 cap2) (hne : a ≠ a2) {K : SK} (hK : KC K h) (hO : KO K) {D : SG} (hD : BkC D a2 b2 h) (hcap2 : D.1 * D.2.1 ≤ cap2) (hcap : D.1 * D.2.1 ≤ cap) (hDO : ∀ k, k < D.1 * D.2.1 → okA K.1 (D.2.2 k)) (hd1 : D.1 ≤ 60) (hd2 : D.2.1 ≤ 60) {m : Nat} (hm : m < 8) {ac : Int32} {i : Nat} (hi : i < D.1)
    (kx : ∀ h1 : mj_H, (Fr (Wbk a b) h h1 ∧ mI h1 a 0 = nI (tR m D.1 D.2.1) ∧ mI h1 a 1 = nI (tC m D.1 D.2.1) ∧ ∀ k, k < i * D.2.1 + (D.2.1) → mI h1 b (toK m D.1 D.2.1 k) = eA (mvA K (D.2.2 k) m)) → Ex S bl_takeMoved 227 [some (.ref (a)), some (.ref (a2)), some (.int (nI (m))), some (.ref 1), some (.int (ac)), some (.int (nI (i))), some (.int (nI (D.2.1))), none, none] [] h1 Q) : ∀ d j : Nat, j + d = D.2.1 → ∀ h1 : mj_H, (Fr (Wbk a b) h h1 ∧ mI h1 a 0 = nI (tR m D.1 D.2.1) ∧ mI h1 a 1 = nI (tC m D.1 D.2.1) ∧ ∀ k, k < i * D.2.1 + j → mI h1 b (toK m D.1 D.2.1 k) = eA (mvA K (D.2.2 k) m)) → Ex S bl_takeMoved 69 [some (.ref (a)), some (.ref (a2)), some (.int (nI (m))), some (.ref 1), some (.int (ac)), some (.int (nI (i))), some (.int (nI (j))), none, none] [] h1 Q := by
  intro d
  induction d with
  | zero =>
    intro j hj h1 hI
    obtain rfl : j = D.2.1 := by omega
    have f1 := hI.1
    have hs1 : HT h1 := f1.ht hs (Wbk_st hk)
    have hD1 : BkC D a2 b2 h1 := BkC_fr hs hk2 f1 (by intro x k; unfold Wbk; unfold bkOK at hk hk2; omega) hD
    refine Ex_iload d_bl_takeMoved_69 rfl ?_
    refine Ex_aload_n d_bl_takeMoved_71 rfl ?_
    refine Ex_getIE d_bl_takeMoved_72 pf_bl_23 rfl (Bob_of hs1 hk2).1 hD1.2.1 ?_
    refine Ex_icmp_geN (D.2.1) (D.2.1) 227 d_bl_takeMoved_75 rfl rfl rfl (by omega) (by omega) (fun hc75 => ?_) (fun hc75 => ?_)
    · exact kx h1 hI
    · exfalso; omega
  | succ d ih =>
    intro j hj h1 hI
    have f1 := hI.1
    have hs1 : HT h1 := f1.ht hs (Wbk_st hk)
    have hD1 : BkC D a2 b2 h1 := BkC_fr hs hk2 f1 (by intro x k; unfold Wbk; unfold bkOK at hk hk2; omega) hD
    have hK1 : KC K h1 := KC_fr hs f1 (by intro x k; unfold WKC Wbk; unfold bkOK at hk; omega) hK
    have hx := idx_lt hi (show j < D.2.1 by omega)
    have hdm := idx_dm (i := i) (show j < D.2.1 by omega)
    obtain ⟨-, -, hd3, hd4⟩ := fr_d (m := m) hi (show j < D.2.1 by omega)
    have hto : toK m D.1 D.2.1 (i * D.2.1 + j) = dI m D.1 D.2.1 i j * tC m D.1 D.2.1 + dJ m D.1 D.2.1 i j := by unfold toK; rw [hdm.1, hdm.2]
    have hcapT : tR m D.1 D.2.1 * tC m D.1 D.2.1 ≤ cap := by rw [t_mul]; exact hcap
    have h4 : m % 4 = 0 ∨ m % 4 = 1 ∨ m % 4 = 2 ∨ m % 4 = 3 := by omega
    rcases h4 with ht | ht | ht | ht
    · by_cases hbig : 4 ≤ m
      · have e1 : dI m D.1 D.2.1 i j = i := by unfold dI dK; simp [ht, hbig]
        have e2 : dJ m D.1 D.2.1 i j = D.2.1 - 1 - j := by unfold dJ dK; simp [ht, hbig]
        rw [e1] at hd3
        rw [e2] at hd4
        refine Ex_iload d_bl_takeMoved_69 rfl ?_
        refine Ex_aload_n d_bl_takeMoved_71 rfl ?_
        refine Ex_getIE d_bl_takeMoved_72 pf_bl_23 rfl (Bob_of hs1 hk2).1 hD1.2.1 ?_
        refine Ex_icmp_geN (j) (D.2.1) 227 d_bl_takeMoved_75 rfl rfl rfl (by omega) (by omega) (fun hc75 => ?_) (fun hc75 => ?_)
        · exfalso; omega
        · refine Ex_aload_n d_bl_takeMoved_78 rfl ?_
          refine Ex_aload_n d_bl_takeMoved_79 rfl ?_
          refine Ex_iload d_bl_takeMoved_80 rfl ?_
          refine Ex_iload d_bl_takeMoved_82 rfl ?_
          refine Ex_pV2 (v := .int (eA (D.2.2 (i * D.2.1 + j)))) d_bl_takeMoved_84 pk_bl_takeMoved_32 (Bob_of hs1 hk2).1 (by rw [← hD1.2.2 _ hx]; exact bl_cellAt_s hs1 hk2 hD1.1 hD1.2.1 hcap2 hi (by omega)) ?_
          refine Ex_iload_n d_bl_takeMoved_87 rfl ?_
          refine Ex_pV2 (v := .int (eA (mvA K (D.2.2 (i * D.2.1 + j)) m))) d_bl_takeMoved_88 pk_bl_takeMoved_55 (t_1 hs1) (ki_movedCell_s hs1 hK1 hO (hDO _ hx) hm) ?_
          refine Ex_istore [some (.ref (a)), some (.ref (a2)), some (.int (nI (m))), some (.ref 1), some (.int (ac)), some (.int (nI (i))), some (.int (nI (j))), some (.int (eA (mvA K (D.2.2 (i * D.2.1 + j)) m))), none] d_bl_takeMoved_91 (Nat.le_of_ble_eq_true rfl) rfl ?_
          refine Ex_iload_n d_bl_takeMoved_93 rfl ?_
          refine Ex_iconst d_bl_takeMoved_94 ic_4 ?_
          refine Ex_icmp_ltN (m) (4) 110 d_bl_takeMoved_95 rfl rfl rfl (by omega) (by omega) (fun hc95 => ?_) (fun hc95 => ?_)
          · exfalso; omega
          · refine Ex_aload_n d_bl_takeMoved_98 rfl ?_
            refine Ex_getIE d_bl_takeMoved_99 pf_bl_23 rfl (Bob_of hs1 hk2).1 hD1.2.1 ?_
            refine Ex_iconst d_bl_takeMoved_102 ic_1 ?_
            refine Ex_isubN (D.2.1) (1) d_bl_takeMoved_103 rfl rfl (by omega) ?_
            refine Ex_iload d_bl_takeMoved_104 rfl ?_
            refine Ex_isubN (D.2.1 - 1) (j) d_bl_takeMoved_106 rfl rfl (by omega) ?_
            refine Ex_goto 112 d_bl_takeMoved_107 rfl ?_
            refine Ex_istore [some (.ref (a)), some (.ref (a2)), some (.int (nI (m))), some (.ref 1), some (.int (ac)), some (.int (nI (i))), some (.int (nI (j))), some (.int (eA (mvA K (D.2.2 (i * D.2.1 + j)) m))), some (.int (nI ((D.2.1 - 1) - j)))] d_bl_takeMoved_112 (Nat.le_of_ble_eq_true rfl) rfl ?_
            refine Ex_iload_n d_bl_takeMoved_114 rfl ?_
            refine Ex_iconst d_bl_takeMoved_115 ic_3 ?_
            refine Ex_iand d_bl_takeMoved_116 ?_
            rw [show (((nI (m)) &&& (3 : Int32)) : Int32) = (nI (m % 4)) from (nI_3 m)]
            rw [show nI (m % 4) = (0 : Int32) by rw [ht]; rfl]
            refine Ex_swIn 144 d_bl_takeMoved_117 (by decide) (by decide) rfl rfl ?_
            refine Ex_aload_n d_bl_takeMoved_144 rfl ?_
            refine Ex_iload d_bl_takeMoved_145 rfl ?_
            refine Ex_iload d_bl_takeMoved_147 rfl ?_
            refine Ex_iload d_bl_takeMoved_149 rfl ?_
            refine Ex_cV3 d_bl_takeMoved_151 pk_bl_takeMoved_40 (Bob_of hs1 hk).1 (bl_setCell_s hs1 hk hI.2.1 hI.2.2.1 hcapT (i := i) (j := (D.2.1 - 1) - j) (by omega) (by omega) _) ?_
            rintro rv h2 ⟨rfl, rfl⟩
            rw [show i * tC m D.1 D.2.1 + ((D.2.1 - 1) - j) = toK m D.1 D.2.1 (i * D.2.1 + j) by rw [hto, e1, e2]]
            show Ex S bl_takeMoved 154 [some (.ref (a)), some (.ref (a2)), some (.int (nI (m))), some (.ref 1), some (.int (ac)), some (.int (nI (i))), some (.int (nI (j))), some (.int (eA (mvA K (D.2.2 (i * D.2.1 + j)) m))), some (.int (nI ((D.2.1 - 1) - j)))] [] (wI h1 b (toK m D.1 D.2.1 (i * D.2.1 + j)) (eA (mvA K (D.2.2 (i * D.2.1 + j)) m))) _
            refine Ex_goto 221 d_bl_takeMoved_154 rfl ?_
            refine Ex_iincN (j) 1 [some (.ref (a)), some (.ref (a2)), some (.int (nI (m))), some (.ref 1), some (.int (ac)), some (.int (nI (i))), some (.int (nI (j + 1))), some (.int (eA (mvA K (D.2.2 (i * D.2.1 + j)) m))), some (.int (nI ((D.2.1 - 1) - j)))] d_bl_takeMoved_221 rfl rfl rfl rfl ?_
            refine Ex_goto 69 d_bl_takeMoved_224 rfl ?_
            refine Ex_forget (ls' := [some (.ref (a)), some (.ref (a2)), some (.int (nI (m))), some (.ref 1), some (.int (ac)), some (.int (nI (i))), some (.int (nI (j + 1))), none, none]) (sub_s (sub_s (sub_s (sub_s (sub_s (sub_s (sub_s (sub_n (sub_n sub_0))))))))) ?_
            refine ih (j + 1) (by omega) _ ⟨Fr.sI f1 (Or.inl rfl), by rw [mI_oth (Or.inl (by unfold bkOK at hk; omega))]; exact hI.2.1, by rw [mI_oth (Or.inl (by unfold bkOK at hk; omega))]; exact hI.2.2.1, fun t ht0 => ?_⟩
            by_cases htk : t = i * D.2.1 + j
            · subst htk
              rw [mI_self]
            · rw [mI_oth (Or.inr (fun z => htk (to_inj (by omega) hx z)))]
              exact hI.2.2.2 t (by omega)
      · have e1 : dI m D.1 D.2.1 i j = i := by unfold dI dK; simp [ht, hbig]
        have e2 : dJ m D.1 D.2.1 i j = j := by unfold dJ dK; simp [ht, hbig]
        rw [e1] at hd3
        rw [e2] at hd4
        refine Ex_iload d_bl_takeMoved_69 rfl ?_
        refine Ex_aload_n d_bl_takeMoved_71 rfl ?_
        refine Ex_getIE d_bl_takeMoved_72 pf_bl_23 rfl (Bob_of hs1 hk2).1 hD1.2.1 ?_
        refine Ex_icmp_geN (j) (D.2.1) 227 d_bl_takeMoved_75 rfl rfl rfl (by omega) (by omega) (fun hc75 => ?_) (fun hc75 => ?_)
        · exfalso; omega
        · refine Ex_aload_n d_bl_takeMoved_78 rfl ?_
          refine Ex_aload_n d_bl_takeMoved_79 rfl ?_
          refine Ex_iload d_bl_takeMoved_80 rfl ?_
          refine Ex_iload d_bl_takeMoved_82 rfl ?_
          refine Ex_pV2 (v := .int (eA (D.2.2 (i * D.2.1 + j)))) d_bl_takeMoved_84 pk_bl_takeMoved_32 (Bob_of hs1 hk2).1 (by rw [← hD1.2.2 _ hx]; exact bl_cellAt_s hs1 hk2 hD1.1 hD1.2.1 hcap2 hi (by omega)) ?_
          refine Ex_iload_n d_bl_takeMoved_87 rfl ?_
          refine Ex_pV2 (v := .int (eA (mvA K (D.2.2 (i * D.2.1 + j)) m))) d_bl_takeMoved_88 pk_bl_takeMoved_55 (t_1 hs1) (ki_movedCell_s hs1 hK1 hO (hDO _ hx) hm) ?_
          refine Ex_istore [some (.ref (a)), some (.ref (a2)), some (.int (nI (m))), some (.ref 1), some (.int (ac)), some (.int (nI (i))), some (.int (nI (j))), some (.int (eA (mvA K (D.2.2 (i * D.2.1 + j)) m))), none] d_bl_takeMoved_91 (Nat.le_of_ble_eq_true rfl) rfl ?_
          refine Ex_iload_n d_bl_takeMoved_93 rfl ?_
          refine Ex_iconst d_bl_takeMoved_94 ic_4 ?_
          refine Ex_icmp_ltN (m) (4) 110 d_bl_takeMoved_95 rfl rfl rfl (by omega) (by omega) (fun hc95 => ?_) (fun hc95 => ?_)
          · refine Ex_iload d_bl_takeMoved_110 rfl ?_
            refine Ex_istore [some (.ref (a)), some (.ref (a2)), some (.int (nI (m))), some (.ref 1), some (.int (ac)), some (.int (nI (i))), some (.int (nI (j))), some (.int (eA (mvA K (D.2.2 (i * D.2.1 + j)) m))), some (.int (nI (j)))] d_bl_takeMoved_112 (Nat.le_of_ble_eq_true rfl) rfl ?_
            refine Ex_iload_n d_bl_takeMoved_114 rfl ?_
            refine Ex_iconst d_bl_takeMoved_115 ic_3 ?_
            refine Ex_iand d_bl_takeMoved_116 ?_
            rw [show (((nI (m)) &&& (3 : Int32)) : Int32) = (nI (m % 4)) from (nI_3 m)]
            rw [show nI (m % 4) = (0 : Int32) by rw [ht]; rfl]
            refine Ex_swIn 144 d_bl_takeMoved_117 (by decide) (by decide) rfl rfl ?_
            refine Ex_aload_n d_bl_takeMoved_144 rfl ?_
            refine Ex_iload d_bl_takeMoved_145 rfl ?_
            refine Ex_iload d_bl_takeMoved_147 rfl ?_
            refine Ex_iload d_bl_takeMoved_149 rfl ?_
            refine Ex_cV3 d_bl_takeMoved_151 pk_bl_takeMoved_40 (Bob_of hs1 hk).1 (bl_setCell_s hs1 hk hI.2.1 hI.2.2.1 hcapT (i := i) (j := j) (by omega) (by omega) _) ?_
            rintro rv h2 ⟨rfl, rfl⟩
            rw [show i * tC m D.1 D.2.1 + j = toK m D.1 D.2.1 (i * D.2.1 + j) by rw [hto, e1, e2]]
            show Ex S bl_takeMoved 154 [some (.ref (a)), some (.ref (a2)), some (.int (nI (m))), some (.ref 1), some (.int (ac)), some (.int (nI (i))), some (.int (nI (j))), some (.int (eA (mvA K (D.2.2 (i * D.2.1 + j)) m))), some (.int (nI (j)))] [] (wI h1 b (toK m D.1 D.2.1 (i * D.2.1 + j)) (eA (mvA K (D.2.2 (i * D.2.1 + j)) m))) _
            refine Ex_goto 221 d_bl_takeMoved_154 rfl ?_
            refine Ex_iincN (j) 1 [some (.ref (a)), some (.ref (a2)), some (.int (nI (m))), some (.ref 1), some (.int (ac)), some (.int (nI (i))), some (.int (nI (j + 1))), some (.int (eA (mvA K (D.2.2 (i * D.2.1 + j)) m))), some (.int (nI (j)))] d_bl_takeMoved_221 rfl rfl rfl rfl ?_
            refine Ex_goto 69 d_bl_takeMoved_224 rfl ?_
            refine Ex_forget (ls' := [some (.ref (a)), some (.ref (a2)), some (.int (nI (m))), some (.ref 1), some (.int (ac)), some (.int (nI (i))), some (.int (nI (j + 1))), none, none]) (sub_s (sub_s (sub_s (sub_s (sub_s (sub_s (sub_s (sub_n (sub_n sub_0))))))))) ?_
            refine ih (j + 1) (by omega) _ ⟨Fr.sI f1 (Or.inl rfl), by rw [mI_oth (Or.inl (by unfold bkOK at hk; omega))]; exact hI.2.1, by rw [mI_oth (Or.inl (by unfold bkOK at hk; omega))]; exact hI.2.2.1, fun t ht0 => ?_⟩
            by_cases htk : t = i * D.2.1 + j
            · subst htk
              rw [mI_self]
            · rw [mI_oth (Or.inr (fun z => htk (to_inj (by omega) hx z)))]
              exact hI.2.2.2 t (by omega)
          · exfalso; omega
    · by_cases hbig : 4 ≤ m
      · have e1 : dI m D.1 D.2.1 i j = D.2.1 - 1 - j := by unfold dI dK; simp [ht, hbig]
        have e2 : dJ m D.1 D.2.1 i j = D.1 - 1 - i := by unfold dJ dK; simp [ht, hbig]
        rw [e1] at hd3
        rw [e2] at hd4
        refine Ex_iload d_bl_takeMoved_69 rfl ?_
        refine Ex_aload_n d_bl_takeMoved_71 rfl ?_
        refine Ex_getIE d_bl_takeMoved_72 pf_bl_23 rfl (Bob_of hs1 hk2).1 hD1.2.1 ?_
        refine Ex_icmp_geN (j) (D.2.1) 227 d_bl_takeMoved_75 rfl rfl rfl (by omega) (by omega) (fun hc75 => ?_) (fun hc75 => ?_)
        · exfalso; omega
        · refine Ex_aload_n d_bl_takeMoved_78 rfl ?_
          refine Ex_aload_n d_bl_takeMoved_79 rfl ?_
          refine Ex_iload d_bl_takeMoved_80 rfl ?_
          refine Ex_iload d_bl_takeMoved_82 rfl ?_
          refine Ex_pV2 (v := .int (eA (D.2.2 (i * D.2.1 + j)))) d_bl_takeMoved_84 pk_bl_takeMoved_32 (Bob_of hs1 hk2).1 (by rw [← hD1.2.2 _ hx]; exact bl_cellAt_s hs1 hk2 hD1.1 hD1.2.1 hcap2 hi (by omega)) ?_
          refine Ex_iload_n d_bl_takeMoved_87 rfl ?_
          refine Ex_pV2 (v := .int (eA (mvA K (D.2.2 (i * D.2.1 + j)) m))) d_bl_takeMoved_88 pk_bl_takeMoved_55 (t_1 hs1) (ki_movedCell_s hs1 hK1 hO (hDO _ hx) hm) ?_
          refine Ex_istore [some (.ref (a)), some (.ref (a2)), some (.int (nI (m))), some (.ref 1), some (.int (ac)), some (.int (nI (i))), some (.int (nI (j))), some (.int (eA (mvA K (D.2.2 (i * D.2.1 + j)) m))), none] d_bl_takeMoved_91 (Nat.le_of_ble_eq_true rfl) rfl ?_
          refine Ex_iload_n d_bl_takeMoved_93 rfl ?_
          refine Ex_iconst d_bl_takeMoved_94 ic_4 ?_
          refine Ex_icmp_ltN (m) (4) 110 d_bl_takeMoved_95 rfl rfl rfl (by omega) (by omega) (fun hc95 => ?_) (fun hc95 => ?_)
          · exfalso; omega
          · refine Ex_aload_n d_bl_takeMoved_98 rfl ?_
            refine Ex_getIE d_bl_takeMoved_99 pf_bl_23 rfl (Bob_of hs1 hk2).1 hD1.2.1 ?_
            refine Ex_iconst d_bl_takeMoved_102 ic_1 ?_
            refine Ex_isubN (D.2.1) (1) d_bl_takeMoved_103 rfl rfl (by omega) ?_
            refine Ex_iload d_bl_takeMoved_104 rfl ?_
            refine Ex_isubN (D.2.1 - 1) (j) d_bl_takeMoved_106 rfl rfl (by omega) ?_
            refine Ex_goto 112 d_bl_takeMoved_107 rfl ?_
            refine Ex_istore [some (.ref (a)), some (.ref (a2)), some (.int (nI (m))), some (.ref 1), some (.int (ac)), some (.int (nI (i))), some (.int (nI (j))), some (.int (eA (mvA K (D.2.2 (i * D.2.1 + j)) m))), some (.int (nI ((D.2.1 - 1) - j)))] d_bl_takeMoved_112 (Nat.le_of_ble_eq_true rfl) rfl ?_
            refine Ex_iload_n d_bl_takeMoved_114 rfl ?_
            refine Ex_iconst d_bl_takeMoved_115 ic_3 ?_
            refine Ex_iand d_bl_takeMoved_116 ?_
            rw [show (((nI (m)) &&& (3 : Int32)) : Int32) = (nI (m % 4)) from (nI_3 m)]
            rw [show nI (m % 4) = (1 : Int32) by rw [ht]; rfl]
            refine Ex_swIn 157 d_bl_takeMoved_117 (by decide) (by decide) rfl rfl ?_
            refine Ex_aload_n d_bl_takeMoved_157 rfl ?_
            refine Ex_iload d_bl_takeMoved_158 rfl ?_
            refine Ex_aload_n d_bl_takeMoved_160 rfl ?_
            refine Ex_getIE d_bl_takeMoved_161 pf_bl_19 rfl (Bob_of hs1 hk2).1 hD1.1 ?_
            refine Ex_iconst d_bl_takeMoved_164 ic_1 ?_
            refine Ex_isubN (D.1) (1) d_bl_takeMoved_165 rfl rfl (by omega) ?_
            refine Ex_iload d_bl_takeMoved_166 rfl ?_
            refine Ex_isubN (D.1 - 1) (i) d_bl_takeMoved_168 rfl rfl (by omega) ?_
            refine Ex_iload d_bl_takeMoved_169 rfl ?_
            refine Ex_cV3 d_bl_takeMoved_171 pk_bl_takeMoved_40 (Bob_of hs1 hk).1 (bl_setCell_s hs1 hk hI.2.1 hI.2.2.1 hcapT (i := (D.2.1 - 1) - j) (j := (D.1 - 1) - i) (by omega) (by omega) _) ?_
            rintro rv h2 ⟨rfl, rfl⟩
            rw [show ((D.2.1 - 1) - j) * tC m D.1 D.2.1 + ((D.1 - 1) - i) = toK m D.1 D.2.1 (i * D.2.1 + j) by rw [hto, e1, e2]]
            show Ex S bl_takeMoved 174 [some (.ref (a)), some (.ref (a2)), some (.int (nI (m))), some (.ref 1), some (.int (ac)), some (.int (nI (i))), some (.int (nI (j))), some (.int (eA (mvA K (D.2.2 (i * D.2.1 + j)) m))), some (.int (nI ((D.2.1 - 1) - j)))] [] (wI h1 b (toK m D.1 D.2.1 (i * D.2.1 + j)) (eA (mvA K (D.2.2 (i * D.2.1 + j)) m))) _
            refine Ex_goto 221 d_bl_takeMoved_174 rfl ?_
            refine Ex_iincN (j) 1 [some (.ref (a)), some (.ref (a2)), some (.int (nI (m))), some (.ref 1), some (.int (ac)), some (.int (nI (i))), some (.int (nI (j + 1))), some (.int (eA (mvA K (D.2.2 (i * D.2.1 + j)) m))), some (.int (nI ((D.2.1 - 1) - j)))] d_bl_takeMoved_221 rfl rfl rfl rfl ?_
            refine Ex_goto 69 d_bl_takeMoved_224 rfl ?_
            refine Ex_forget (ls' := [some (.ref (a)), some (.ref (a2)), some (.int (nI (m))), some (.ref 1), some (.int (ac)), some (.int (nI (i))), some (.int (nI (j + 1))), none, none]) (sub_s (sub_s (sub_s (sub_s (sub_s (sub_s (sub_s (sub_n (sub_n sub_0))))))))) ?_
            refine ih (j + 1) (by omega) _ ⟨Fr.sI f1 (Or.inl rfl), by rw [mI_oth (Or.inl (by unfold bkOK at hk; omega))]; exact hI.2.1, by rw [mI_oth (Or.inl (by unfold bkOK at hk; omega))]; exact hI.2.2.1, fun t ht0 => ?_⟩
            by_cases htk : t = i * D.2.1 + j
            · subst htk
              rw [mI_self]
            · rw [mI_oth (Or.inr (fun z => htk (to_inj (by omega) hx z)))]
              exact hI.2.2.2 t (by omega)
      · have e1 : dI m D.1 D.2.1 i j = j := by unfold dI dK; simp [ht, hbig]
        have e2 : dJ m D.1 D.2.1 i j = D.1 - 1 - i := by unfold dJ dK; simp [ht, hbig]
        rw [e1] at hd3
        rw [e2] at hd4
        refine Ex_iload d_bl_takeMoved_69 rfl ?_
        refine Ex_aload_n d_bl_takeMoved_71 rfl ?_
        refine Ex_getIE d_bl_takeMoved_72 pf_bl_23 rfl (Bob_of hs1 hk2).1 hD1.2.1 ?_
        refine Ex_icmp_geN (j) (D.2.1) 227 d_bl_takeMoved_75 rfl rfl rfl (by omega) (by omega) (fun hc75 => ?_) (fun hc75 => ?_)
        · exfalso; omega
        · refine Ex_aload_n d_bl_takeMoved_78 rfl ?_
          refine Ex_aload_n d_bl_takeMoved_79 rfl ?_
          refine Ex_iload d_bl_takeMoved_80 rfl ?_
          refine Ex_iload d_bl_takeMoved_82 rfl ?_
          refine Ex_pV2 (v := .int (eA (D.2.2 (i * D.2.1 + j)))) d_bl_takeMoved_84 pk_bl_takeMoved_32 (Bob_of hs1 hk2).1 (by rw [← hD1.2.2 _ hx]; exact bl_cellAt_s hs1 hk2 hD1.1 hD1.2.1 hcap2 hi (by omega)) ?_
          refine Ex_iload_n d_bl_takeMoved_87 rfl ?_
          refine Ex_pV2 (v := .int (eA (mvA K (D.2.2 (i * D.2.1 + j)) m))) d_bl_takeMoved_88 pk_bl_takeMoved_55 (t_1 hs1) (ki_movedCell_s hs1 hK1 hO (hDO _ hx) hm) ?_
          refine Ex_istore [some (.ref (a)), some (.ref (a2)), some (.int (nI (m))), some (.ref 1), some (.int (ac)), some (.int (nI (i))), some (.int (nI (j))), some (.int (eA (mvA K (D.2.2 (i * D.2.1 + j)) m))), none] d_bl_takeMoved_91 (Nat.le_of_ble_eq_true rfl) rfl ?_
          refine Ex_iload_n d_bl_takeMoved_93 rfl ?_
          refine Ex_iconst d_bl_takeMoved_94 ic_4 ?_
          refine Ex_icmp_ltN (m) (4) 110 d_bl_takeMoved_95 rfl rfl rfl (by omega) (by omega) (fun hc95 => ?_) (fun hc95 => ?_)
          · refine Ex_iload d_bl_takeMoved_110 rfl ?_
            refine Ex_istore [some (.ref (a)), some (.ref (a2)), some (.int (nI (m))), some (.ref 1), some (.int (ac)), some (.int (nI (i))), some (.int (nI (j))), some (.int (eA (mvA K (D.2.2 (i * D.2.1 + j)) m))), some (.int (nI (j)))] d_bl_takeMoved_112 (Nat.le_of_ble_eq_true rfl) rfl ?_
            refine Ex_iload_n d_bl_takeMoved_114 rfl ?_
            refine Ex_iconst d_bl_takeMoved_115 ic_3 ?_
            refine Ex_iand d_bl_takeMoved_116 ?_
            rw [show (((nI (m)) &&& (3 : Int32)) : Int32) = (nI (m % 4)) from (nI_3 m)]
            rw [show nI (m % 4) = (1 : Int32) by rw [ht]; rfl]
            refine Ex_swIn 157 d_bl_takeMoved_117 (by decide) (by decide) rfl rfl ?_
            refine Ex_aload_n d_bl_takeMoved_157 rfl ?_
            refine Ex_iload d_bl_takeMoved_158 rfl ?_
            refine Ex_aload_n d_bl_takeMoved_160 rfl ?_
            refine Ex_getIE d_bl_takeMoved_161 pf_bl_19 rfl (Bob_of hs1 hk2).1 hD1.1 ?_
            refine Ex_iconst d_bl_takeMoved_164 ic_1 ?_
            refine Ex_isubN (D.1) (1) d_bl_takeMoved_165 rfl rfl (by omega) ?_
            refine Ex_iload d_bl_takeMoved_166 rfl ?_
            refine Ex_isubN (D.1 - 1) (i) d_bl_takeMoved_168 rfl rfl (by omega) ?_
            refine Ex_iload d_bl_takeMoved_169 rfl ?_
            refine Ex_cV3 d_bl_takeMoved_171 pk_bl_takeMoved_40 (Bob_of hs1 hk).1 (bl_setCell_s hs1 hk hI.2.1 hI.2.2.1 hcapT (i := j) (j := (D.1 - 1) - i) (by omega) (by omega) _) ?_
            rintro rv h2 ⟨rfl, rfl⟩
            rw [show j * tC m D.1 D.2.1 + ((D.1 - 1) - i) = toK m D.1 D.2.1 (i * D.2.1 + j) by rw [hto, e1, e2]]
            show Ex S bl_takeMoved 174 [some (.ref (a)), some (.ref (a2)), some (.int (nI (m))), some (.ref 1), some (.int (ac)), some (.int (nI (i))), some (.int (nI (j))), some (.int (eA (mvA K (D.2.2 (i * D.2.1 + j)) m))), some (.int (nI (j)))] [] (wI h1 b (toK m D.1 D.2.1 (i * D.2.1 + j)) (eA (mvA K (D.2.2 (i * D.2.1 + j)) m))) _
            refine Ex_goto 221 d_bl_takeMoved_174 rfl ?_
            refine Ex_iincN (j) 1 [some (.ref (a)), some (.ref (a2)), some (.int (nI (m))), some (.ref 1), some (.int (ac)), some (.int (nI (i))), some (.int (nI (j + 1))), some (.int (eA (mvA K (D.2.2 (i * D.2.1 + j)) m))), some (.int (nI (j)))] d_bl_takeMoved_221 rfl rfl rfl rfl ?_
            refine Ex_goto 69 d_bl_takeMoved_224 rfl ?_
            refine Ex_forget (ls' := [some (.ref (a)), some (.ref (a2)), some (.int (nI (m))), some (.ref 1), some (.int (ac)), some (.int (nI (i))), some (.int (nI (j + 1))), none, none]) (sub_s (sub_s (sub_s (sub_s (sub_s (sub_s (sub_s (sub_n (sub_n sub_0))))))))) ?_
            refine ih (j + 1) (by omega) _ ⟨Fr.sI f1 (Or.inl rfl), by rw [mI_oth (Or.inl (by unfold bkOK at hk; omega))]; exact hI.2.1, by rw [mI_oth (Or.inl (by unfold bkOK at hk; omega))]; exact hI.2.2.1, fun t ht0 => ?_⟩
            by_cases htk : t = i * D.2.1 + j
            · subst htk
              rw [mI_self]
            · rw [mI_oth (Or.inr (fun z => htk (to_inj (by omega) hx z)))]
              exact hI.2.2.2 t (by omega)
          · exfalso; omega
    · by_cases hbig : 4 ≤ m
      · have e1 : dI m D.1 D.2.1 i j = D.1 - 1 - i := by unfold dI dK; simp [ht, hbig]
        have e2 : dJ m D.1 D.2.1 i j = D.2.1 - 1 - (D.2.1 - 1 - j) := by unfold dJ dK; simp [ht, hbig]
        rw [e1] at hd3
        rw [e2] at hd4
        refine Ex_iload d_bl_takeMoved_69 rfl ?_
        refine Ex_aload_n d_bl_takeMoved_71 rfl ?_
        refine Ex_getIE d_bl_takeMoved_72 pf_bl_23 rfl (Bob_of hs1 hk2).1 hD1.2.1 ?_
        refine Ex_icmp_geN (j) (D.2.1) 227 d_bl_takeMoved_75 rfl rfl rfl (by omega) (by omega) (fun hc75 => ?_) (fun hc75 => ?_)
        · exfalso; omega
        · refine Ex_aload_n d_bl_takeMoved_78 rfl ?_
          refine Ex_aload_n d_bl_takeMoved_79 rfl ?_
          refine Ex_iload d_bl_takeMoved_80 rfl ?_
          refine Ex_iload d_bl_takeMoved_82 rfl ?_
          refine Ex_pV2 (v := .int (eA (D.2.2 (i * D.2.1 + j)))) d_bl_takeMoved_84 pk_bl_takeMoved_32 (Bob_of hs1 hk2).1 (by rw [← hD1.2.2 _ hx]; exact bl_cellAt_s hs1 hk2 hD1.1 hD1.2.1 hcap2 hi (by omega)) ?_
          refine Ex_iload_n d_bl_takeMoved_87 rfl ?_
          refine Ex_pV2 (v := .int (eA (mvA K (D.2.2 (i * D.2.1 + j)) m))) d_bl_takeMoved_88 pk_bl_takeMoved_55 (t_1 hs1) (ki_movedCell_s hs1 hK1 hO (hDO _ hx) hm) ?_
          refine Ex_istore [some (.ref (a)), some (.ref (a2)), some (.int (nI (m))), some (.ref 1), some (.int (ac)), some (.int (nI (i))), some (.int (nI (j))), some (.int (eA (mvA K (D.2.2 (i * D.2.1 + j)) m))), none] d_bl_takeMoved_91 (Nat.le_of_ble_eq_true rfl) rfl ?_
          refine Ex_iload_n d_bl_takeMoved_93 rfl ?_
          refine Ex_iconst d_bl_takeMoved_94 ic_4 ?_
          refine Ex_icmp_ltN (m) (4) 110 d_bl_takeMoved_95 rfl rfl rfl (by omega) (by omega) (fun hc95 => ?_) (fun hc95 => ?_)
          · exfalso; omega
          · refine Ex_aload_n d_bl_takeMoved_98 rfl ?_
            refine Ex_getIE d_bl_takeMoved_99 pf_bl_23 rfl (Bob_of hs1 hk2).1 hD1.2.1 ?_
            refine Ex_iconst d_bl_takeMoved_102 ic_1 ?_
            refine Ex_isubN (D.2.1) (1) d_bl_takeMoved_103 rfl rfl (by omega) ?_
            refine Ex_iload d_bl_takeMoved_104 rfl ?_
            refine Ex_isubN (D.2.1 - 1) (j) d_bl_takeMoved_106 rfl rfl (by omega) ?_
            refine Ex_goto 112 d_bl_takeMoved_107 rfl ?_
            refine Ex_istore [some (.ref (a)), some (.ref (a2)), some (.int (nI (m))), some (.ref 1), some (.int (ac)), some (.int (nI (i))), some (.int (nI (j))), some (.int (eA (mvA K (D.2.2 (i * D.2.1 + j)) m))), some (.int (nI ((D.2.1 - 1) - j)))] d_bl_takeMoved_112 (Nat.le_of_ble_eq_true rfl) rfl ?_
            refine Ex_iload_n d_bl_takeMoved_114 rfl ?_
            refine Ex_iconst d_bl_takeMoved_115 ic_3 ?_
            refine Ex_iand d_bl_takeMoved_116 ?_
            rw [show (((nI (m)) &&& (3 : Int32)) : Int32) = (nI (m % 4)) from (nI_3 m)]
            rw [show nI (m % 4) = (2 : Int32) by rw [ht]; rfl]
            refine Ex_swIn 177 d_bl_takeMoved_117 (by decide) (by decide) rfl rfl ?_
            refine Ex_aload_n d_bl_takeMoved_177 rfl ?_
            refine Ex_aload_n d_bl_takeMoved_178 rfl ?_
            refine Ex_getIE d_bl_takeMoved_179 pf_bl_19 rfl (Bob_of hs1 hk2).1 hD1.1 ?_
            refine Ex_iconst d_bl_takeMoved_182 ic_1 ?_
            refine Ex_isubN (D.1) (1) d_bl_takeMoved_183 rfl rfl (by omega) ?_
            refine Ex_iload d_bl_takeMoved_184 rfl ?_
            refine Ex_isubN (D.1 - 1) (i) d_bl_takeMoved_186 rfl rfl (by omega) ?_
            refine Ex_aload_n d_bl_takeMoved_187 rfl ?_
            refine Ex_getIE d_bl_takeMoved_188 pf_bl_23 rfl (Bob_of hs1 hk2).1 hD1.2.1 ?_
            refine Ex_iconst d_bl_takeMoved_191 ic_1 ?_
            refine Ex_isubN (D.2.1) (1) d_bl_takeMoved_192 rfl rfl (by omega) ?_
            refine Ex_iload d_bl_takeMoved_193 rfl ?_
            refine Ex_isubN (D.2.1 - 1) ((D.2.1 - 1) - j) d_bl_takeMoved_195 rfl rfl (by omega) ?_
            refine Ex_iload d_bl_takeMoved_196 rfl ?_
            refine Ex_cV3 d_bl_takeMoved_198 pk_bl_takeMoved_40 (Bob_of hs1 hk).1 (bl_setCell_s hs1 hk hI.2.1 hI.2.2.1 hcapT (i := (D.1 - 1) - i) (j := (D.2.1 - 1) - ((D.2.1 - 1) - j)) (by omega) (by omega) _) ?_
            rintro rv h2 ⟨rfl, rfl⟩
            rw [show ((D.1 - 1) - i) * tC m D.1 D.2.1 + ((D.2.1 - 1) - ((D.2.1 - 1) - j)) = toK m D.1 D.2.1 (i * D.2.1 + j) by rw [hto, e1, e2]]
            show Ex S bl_takeMoved 201 [some (.ref (a)), some (.ref (a2)), some (.int (nI (m))), some (.ref 1), some (.int (ac)), some (.int (nI (i))), some (.int (nI (j))), some (.int (eA (mvA K (D.2.2 (i * D.2.1 + j)) m))), some (.int (nI ((D.2.1 - 1) - j)))] [] (wI h1 b (toK m D.1 D.2.1 (i * D.2.1 + j)) (eA (mvA K (D.2.2 (i * D.2.1 + j)) m))) _
            refine Ex_goto 221 d_bl_takeMoved_201 rfl ?_
            refine Ex_iincN (j) 1 [some (.ref (a)), some (.ref (a2)), some (.int (nI (m))), some (.ref 1), some (.int (ac)), some (.int (nI (i))), some (.int (nI (j + 1))), some (.int (eA (mvA K (D.2.2 (i * D.2.1 + j)) m))), some (.int (nI ((D.2.1 - 1) - j)))] d_bl_takeMoved_221 rfl rfl rfl rfl ?_
            refine Ex_goto 69 d_bl_takeMoved_224 rfl ?_
            refine Ex_forget (ls' := [some (.ref (a)), some (.ref (a2)), some (.int (nI (m))), some (.ref 1), some (.int (ac)), some (.int (nI (i))), some (.int (nI (j + 1))), none, none]) (sub_s (sub_s (sub_s (sub_s (sub_s (sub_s (sub_s (sub_n (sub_n sub_0))))))))) ?_
            refine ih (j + 1) (by omega) _ ⟨Fr.sI f1 (Or.inl rfl), by rw [mI_oth (Or.inl (by unfold bkOK at hk; omega))]; exact hI.2.1, by rw [mI_oth (Or.inl (by unfold bkOK at hk; omega))]; exact hI.2.2.1, fun t ht0 => ?_⟩
            by_cases htk : t = i * D.2.1 + j
            · subst htk
              rw [mI_self]
            · rw [mI_oth (Or.inr (fun z => htk (to_inj (by omega) hx z)))]
              exact hI.2.2.2 t (by omega)
      · have e1 : dI m D.1 D.2.1 i j = D.1 - 1 - i := by unfold dI dK; simp [ht, hbig]
        have e2 : dJ m D.1 D.2.1 i j = D.2.1 - 1 - j := by unfold dJ dK; simp [ht, hbig]
        rw [e1] at hd3
        rw [e2] at hd4
        refine Ex_iload d_bl_takeMoved_69 rfl ?_
        refine Ex_aload_n d_bl_takeMoved_71 rfl ?_
        refine Ex_getIE d_bl_takeMoved_72 pf_bl_23 rfl (Bob_of hs1 hk2).1 hD1.2.1 ?_
        refine Ex_icmp_geN (j) (D.2.1) 227 d_bl_takeMoved_75 rfl rfl rfl (by omega) (by omega) (fun hc75 => ?_) (fun hc75 => ?_)
        · exfalso; omega
        · refine Ex_aload_n d_bl_takeMoved_78 rfl ?_
          refine Ex_aload_n d_bl_takeMoved_79 rfl ?_
          refine Ex_iload d_bl_takeMoved_80 rfl ?_
          refine Ex_iload d_bl_takeMoved_82 rfl ?_
          refine Ex_pV2 (v := .int (eA (D.2.2 (i * D.2.1 + j)))) d_bl_takeMoved_84 pk_bl_takeMoved_32 (Bob_of hs1 hk2).1 (by rw [← hD1.2.2 _ hx]; exact bl_cellAt_s hs1 hk2 hD1.1 hD1.2.1 hcap2 hi (by omega)) ?_
          refine Ex_iload_n d_bl_takeMoved_87 rfl ?_
          refine Ex_pV2 (v := .int (eA (mvA K (D.2.2 (i * D.2.1 + j)) m))) d_bl_takeMoved_88 pk_bl_takeMoved_55 (t_1 hs1) (ki_movedCell_s hs1 hK1 hO (hDO _ hx) hm) ?_
          refine Ex_istore [some (.ref (a)), some (.ref (a2)), some (.int (nI (m))), some (.ref 1), some (.int (ac)), some (.int (nI (i))), some (.int (nI (j))), some (.int (eA (mvA K (D.2.2 (i * D.2.1 + j)) m))), none] d_bl_takeMoved_91 (Nat.le_of_ble_eq_true rfl) rfl ?_
          refine Ex_iload_n d_bl_takeMoved_93 rfl ?_
          refine Ex_iconst d_bl_takeMoved_94 ic_4 ?_
          refine Ex_icmp_ltN (m) (4) 110 d_bl_takeMoved_95 rfl rfl rfl (by omega) (by omega) (fun hc95 => ?_) (fun hc95 => ?_)
          · refine Ex_iload d_bl_takeMoved_110 rfl ?_
            refine Ex_istore [some (.ref (a)), some (.ref (a2)), some (.int (nI (m))), some (.ref 1), some (.int (ac)), some (.int (nI (i))), some (.int (nI (j))), some (.int (eA (mvA K (D.2.2 (i * D.2.1 + j)) m))), some (.int (nI (j)))] d_bl_takeMoved_112 (Nat.le_of_ble_eq_true rfl) rfl ?_
            refine Ex_iload_n d_bl_takeMoved_114 rfl ?_
            refine Ex_iconst d_bl_takeMoved_115 ic_3 ?_
            refine Ex_iand d_bl_takeMoved_116 ?_
            rw [show (((nI (m)) &&& (3 : Int32)) : Int32) = (nI (m % 4)) from (nI_3 m)]
            rw [show nI (m % 4) = (2 : Int32) by rw [ht]; rfl]
            refine Ex_swIn 177 d_bl_takeMoved_117 (by decide) (by decide) rfl rfl ?_
            refine Ex_aload_n d_bl_takeMoved_177 rfl ?_
            refine Ex_aload_n d_bl_takeMoved_178 rfl ?_
            refine Ex_getIE d_bl_takeMoved_179 pf_bl_19 rfl (Bob_of hs1 hk2).1 hD1.1 ?_
            refine Ex_iconst d_bl_takeMoved_182 ic_1 ?_
            refine Ex_isubN (D.1) (1) d_bl_takeMoved_183 rfl rfl (by omega) ?_
            refine Ex_iload d_bl_takeMoved_184 rfl ?_
            refine Ex_isubN (D.1 - 1) (i) d_bl_takeMoved_186 rfl rfl (by omega) ?_
            refine Ex_aload_n d_bl_takeMoved_187 rfl ?_
            refine Ex_getIE d_bl_takeMoved_188 pf_bl_23 rfl (Bob_of hs1 hk2).1 hD1.2.1 ?_
            refine Ex_iconst d_bl_takeMoved_191 ic_1 ?_
            refine Ex_isubN (D.2.1) (1) d_bl_takeMoved_192 rfl rfl (by omega) ?_
            refine Ex_iload d_bl_takeMoved_193 rfl ?_
            refine Ex_isubN (D.2.1 - 1) (j) d_bl_takeMoved_195 rfl rfl (by omega) ?_
            refine Ex_iload d_bl_takeMoved_196 rfl ?_
            refine Ex_cV3 d_bl_takeMoved_198 pk_bl_takeMoved_40 (Bob_of hs1 hk).1 (bl_setCell_s hs1 hk hI.2.1 hI.2.2.1 hcapT (i := (D.1 - 1) - i) (j := (D.2.1 - 1) - j) (by omega) (by omega) _) ?_
            rintro rv h2 ⟨rfl, rfl⟩
            rw [show ((D.1 - 1) - i) * tC m D.1 D.2.1 + ((D.2.1 - 1) - j) = toK m D.1 D.2.1 (i * D.2.1 + j) by rw [hto, e1, e2]]
            show Ex S bl_takeMoved 201 [some (.ref (a)), some (.ref (a2)), some (.int (nI (m))), some (.ref 1), some (.int (ac)), some (.int (nI (i))), some (.int (nI (j))), some (.int (eA (mvA K (D.2.2 (i * D.2.1 + j)) m))), some (.int (nI (j)))] [] (wI h1 b (toK m D.1 D.2.1 (i * D.2.1 + j)) (eA (mvA K (D.2.2 (i * D.2.1 + j)) m))) _
            refine Ex_goto 221 d_bl_takeMoved_201 rfl ?_
            refine Ex_iincN (j) 1 [some (.ref (a)), some (.ref (a2)), some (.int (nI (m))), some (.ref 1), some (.int (ac)), some (.int (nI (i))), some (.int (nI (j + 1))), some (.int (eA (mvA K (D.2.2 (i * D.2.1 + j)) m))), some (.int (nI (j)))] d_bl_takeMoved_221 rfl rfl rfl rfl ?_
            refine Ex_goto 69 d_bl_takeMoved_224 rfl ?_
            refine Ex_forget (ls' := [some (.ref (a)), some (.ref (a2)), some (.int (nI (m))), some (.ref 1), some (.int (ac)), some (.int (nI (i))), some (.int (nI (j + 1))), none, none]) (sub_s (sub_s (sub_s (sub_s (sub_s (sub_s (sub_s (sub_n (sub_n sub_0))))))))) ?_
            refine ih (j + 1) (by omega) _ ⟨Fr.sI f1 (Or.inl rfl), by rw [mI_oth (Or.inl (by unfold bkOK at hk; omega))]; exact hI.2.1, by rw [mI_oth (Or.inl (by unfold bkOK at hk; omega))]; exact hI.2.2.1, fun t ht0 => ?_⟩
            by_cases htk : t = i * D.2.1 + j
            · subst htk
              rw [mI_self]
            · rw [mI_oth (Or.inr (fun z => htk (to_inj (by omega) hx z)))]
              exact hI.2.2.2 t (by omega)
          · exfalso; omega
    · by_cases hbig : 4 ≤ m
      · have e1 : dI m D.1 D.2.1 i j = D.2.1 - 1 - (D.2.1 - 1 - j) := by unfold dI dK; simp [ht, hbig]
        have e2 : dJ m D.1 D.2.1 i j = i := by unfold dJ dK; simp [ht, hbig]
        rw [e1] at hd3
        rw [e2] at hd4
        refine Ex_iload d_bl_takeMoved_69 rfl ?_
        refine Ex_aload_n d_bl_takeMoved_71 rfl ?_
        refine Ex_getIE d_bl_takeMoved_72 pf_bl_23 rfl (Bob_of hs1 hk2).1 hD1.2.1 ?_
        refine Ex_icmp_geN (j) (D.2.1) 227 d_bl_takeMoved_75 rfl rfl rfl (by omega) (by omega) (fun hc75 => ?_) (fun hc75 => ?_)
        · exfalso; omega
        · refine Ex_aload_n d_bl_takeMoved_78 rfl ?_
          refine Ex_aload_n d_bl_takeMoved_79 rfl ?_
          refine Ex_iload d_bl_takeMoved_80 rfl ?_
          refine Ex_iload d_bl_takeMoved_82 rfl ?_
          refine Ex_pV2 (v := .int (eA (D.2.2 (i * D.2.1 + j)))) d_bl_takeMoved_84 pk_bl_takeMoved_32 (Bob_of hs1 hk2).1 (by rw [← hD1.2.2 _ hx]; exact bl_cellAt_s hs1 hk2 hD1.1 hD1.2.1 hcap2 hi (by omega)) ?_
          refine Ex_iload_n d_bl_takeMoved_87 rfl ?_
          refine Ex_pV2 (v := .int (eA (mvA K (D.2.2 (i * D.2.1 + j)) m))) d_bl_takeMoved_88 pk_bl_takeMoved_55 (t_1 hs1) (ki_movedCell_s hs1 hK1 hO (hDO _ hx) hm) ?_
          refine Ex_istore [some (.ref (a)), some (.ref (a2)), some (.int (nI (m))), some (.ref 1), some (.int (ac)), some (.int (nI (i))), some (.int (nI (j))), some (.int (eA (mvA K (D.2.2 (i * D.2.1 + j)) m))), none] d_bl_takeMoved_91 (Nat.le_of_ble_eq_true rfl) rfl ?_
          refine Ex_iload_n d_bl_takeMoved_93 rfl ?_
          refine Ex_iconst d_bl_takeMoved_94 ic_4 ?_
          refine Ex_icmp_ltN (m) (4) 110 d_bl_takeMoved_95 rfl rfl rfl (by omega) (by omega) (fun hc95 => ?_) (fun hc95 => ?_)
          · exfalso; omega
          · refine Ex_aload_n d_bl_takeMoved_98 rfl ?_
            refine Ex_getIE d_bl_takeMoved_99 pf_bl_23 rfl (Bob_of hs1 hk2).1 hD1.2.1 ?_
            refine Ex_iconst d_bl_takeMoved_102 ic_1 ?_
            refine Ex_isubN (D.2.1) (1) d_bl_takeMoved_103 rfl rfl (by omega) ?_
            refine Ex_iload d_bl_takeMoved_104 rfl ?_
            refine Ex_isubN (D.2.1 - 1) (j) d_bl_takeMoved_106 rfl rfl (by omega) ?_
            refine Ex_goto 112 d_bl_takeMoved_107 rfl ?_
            refine Ex_istore [some (.ref (a)), some (.ref (a2)), some (.int (nI (m))), some (.ref 1), some (.int (ac)), some (.int (nI (i))), some (.int (nI (j))), some (.int (eA (mvA K (D.2.2 (i * D.2.1 + j)) m))), some (.int (nI ((D.2.1 - 1) - j)))] d_bl_takeMoved_112 (Nat.le_of_ble_eq_true rfl) rfl ?_
            refine Ex_iload_n d_bl_takeMoved_114 rfl ?_
            refine Ex_iconst d_bl_takeMoved_115 ic_3 ?_
            refine Ex_iand d_bl_takeMoved_116 ?_
            rw [show (((nI (m)) &&& (3 : Int32)) : Int32) = (nI (m % 4)) from (nI_3 m)]
            rw [show nI (m % 4) = (3 : Int32) by rw [ht]; rfl]
            refine Ex_swOut 204 d_bl_takeMoved_117 (by decide) rfl ?_
            refine Ex_aload_n d_bl_takeMoved_204 rfl ?_
            refine Ex_aload_n d_bl_takeMoved_205 rfl ?_
            refine Ex_getIE d_bl_takeMoved_206 pf_bl_23 rfl (Bob_of hs1 hk2).1 hD1.2.1 ?_
            refine Ex_iconst d_bl_takeMoved_209 ic_1 ?_
            refine Ex_isubN (D.2.1) (1) d_bl_takeMoved_210 rfl rfl (by omega) ?_
            refine Ex_iload d_bl_takeMoved_211 rfl ?_
            refine Ex_isubN (D.2.1 - 1) ((D.2.1 - 1) - j) d_bl_takeMoved_213 rfl rfl (by omega) ?_
            refine Ex_iload d_bl_takeMoved_214 rfl ?_
            refine Ex_iload d_bl_takeMoved_216 rfl ?_
            refine Ex_cV3 d_bl_takeMoved_218 pk_bl_takeMoved_40 (Bob_of hs1 hk).1 (bl_setCell_s hs1 hk hI.2.1 hI.2.2.1 hcapT (i := (D.2.1 - 1) - ((D.2.1 - 1) - j)) (j := i) (by omega) (by omega) _) ?_
            rintro rv h2 ⟨rfl, rfl⟩
            rw [show ((D.2.1 - 1) - ((D.2.1 - 1) - j)) * tC m D.1 D.2.1 + i = toK m D.1 D.2.1 (i * D.2.1 + j) by rw [hto, e1, e2]]
            show Ex S bl_takeMoved 221 [some (.ref (a)), some (.ref (a2)), some (.int (nI (m))), some (.ref 1), some (.int (ac)), some (.int (nI (i))), some (.int (nI (j))), some (.int (eA (mvA K (D.2.2 (i * D.2.1 + j)) m))), some (.int (nI ((D.2.1 - 1) - j)))] [] (wI h1 b (toK m D.1 D.2.1 (i * D.2.1 + j)) (eA (mvA K (D.2.2 (i * D.2.1 + j)) m))) _
            refine Ex_iincN (j) 1 [some (.ref (a)), some (.ref (a2)), some (.int (nI (m))), some (.ref 1), some (.int (ac)), some (.int (nI (i))), some (.int (nI (j + 1))), some (.int (eA (mvA K (D.2.2 (i * D.2.1 + j)) m))), some (.int (nI ((D.2.1 - 1) - j)))] d_bl_takeMoved_221 rfl rfl rfl rfl ?_
            refine Ex_goto 69 d_bl_takeMoved_224 rfl ?_
            refine Ex_forget (ls' := [some (.ref (a)), some (.ref (a2)), some (.int (nI (m))), some (.ref 1), some (.int (ac)), some (.int (nI (i))), some (.int (nI (j + 1))), none, none]) (sub_s (sub_s (sub_s (sub_s (sub_s (sub_s (sub_s (sub_n (sub_n sub_0))))))))) ?_
            refine ih (j + 1) (by omega) _ ⟨Fr.sI f1 (Or.inl rfl), by rw [mI_oth (Or.inl (by unfold bkOK at hk; omega))]; exact hI.2.1, by rw [mI_oth (Or.inl (by unfold bkOK at hk; omega))]; exact hI.2.2.1, fun t ht0 => ?_⟩
            by_cases htk : t = i * D.2.1 + j
            · subst htk
              rw [mI_self]
            · rw [mI_oth (Or.inr (fun z => htk (to_inj (by omega) hx z)))]
              exact hI.2.2.2 t (by omega)
      · have e1 : dI m D.1 D.2.1 i j = D.2.1 - 1 - j := by unfold dI dK; simp [ht, hbig]
        have e2 : dJ m D.1 D.2.1 i j = i := by unfold dJ dK; simp [ht, hbig]
        rw [e1] at hd3
        rw [e2] at hd4
        refine Ex_iload d_bl_takeMoved_69 rfl ?_
        refine Ex_aload_n d_bl_takeMoved_71 rfl ?_
        refine Ex_getIE d_bl_takeMoved_72 pf_bl_23 rfl (Bob_of hs1 hk2).1 hD1.2.1 ?_
        refine Ex_icmp_geN (j) (D.2.1) 227 d_bl_takeMoved_75 rfl rfl rfl (by omega) (by omega) (fun hc75 => ?_) (fun hc75 => ?_)
        · exfalso; omega
        · refine Ex_aload_n d_bl_takeMoved_78 rfl ?_
          refine Ex_aload_n d_bl_takeMoved_79 rfl ?_
          refine Ex_iload d_bl_takeMoved_80 rfl ?_
          refine Ex_iload d_bl_takeMoved_82 rfl ?_
          refine Ex_pV2 (v := .int (eA (D.2.2 (i * D.2.1 + j)))) d_bl_takeMoved_84 pk_bl_takeMoved_32 (Bob_of hs1 hk2).1 (by rw [← hD1.2.2 _ hx]; exact bl_cellAt_s hs1 hk2 hD1.1 hD1.2.1 hcap2 hi (by omega)) ?_
          refine Ex_iload_n d_bl_takeMoved_87 rfl ?_
          refine Ex_pV2 (v := .int (eA (mvA K (D.2.2 (i * D.2.1 + j)) m))) d_bl_takeMoved_88 pk_bl_takeMoved_55 (t_1 hs1) (ki_movedCell_s hs1 hK1 hO (hDO _ hx) hm) ?_
          refine Ex_istore [some (.ref (a)), some (.ref (a2)), some (.int (nI (m))), some (.ref 1), some (.int (ac)), some (.int (nI (i))), some (.int (nI (j))), some (.int (eA (mvA K (D.2.2 (i * D.2.1 + j)) m))), none] d_bl_takeMoved_91 (Nat.le_of_ble_eq_true rfl) rfl ?_
          refine Ex_iload_n d_bl_takeMoved_93 rfl ?_
          refine Ex_iconst d_bl_takeMoved_94 ic_4 ?_
          refine Ex_icmp_ltN (m) (4) 110 d_bl_takeMoved_95 rfl rfl rfl (by omega) (by omega) (fun hc95 => ?_) (fun hc95 => ?_)
          · refine Ex_iload d_bl_takeMoved_110 rfl ?_
            refine Ex_istore [some (.ref (a)), some (.ref (a2)), some (.int (nI (m))), some (.ref 1), some (.int (ac)), some (.int (nI (i))), some (.int (nI (j))), some (.int (eA (mvA K (D.2.2 (i * D.2.1 + j)) m))), some (.int (nI (j)))] d_bl_takeMoved_112 (Nat.le_of_ble_eq_true rfl) rfl ?_
            refine Ex_iload_n d_bl_takeMoved_114 rfl ?_
            refine Ex_iconst d_bl_takeMoved_115 ic_3 ?_
            refine Ex_iand d_bl_takeMoved_116 ?_
            rw [show (((nI (m)) &&& (3 : Int32)) : Int32) = (nI (m % 4)) from (nI_3 m)]
            rw [show nI (m % 4) = (3 : Int32) by rw [ht]; rfl]
            refine Ex_swOut 204 d_bl_takeMoved_117 (by decide) rfl ?_
            refine Ex_aload_n d_bl_takeMoved_204 rfl ?_
            refine Ex_aload_n d_bl_takeMoved_205 rfl ?_
            refine Ex_getIE d_bl_takeMoved_206 pf_bl_23 rfl (Bob_of hs1 hk2).1 hD1.2.1 ?_
            refine Ex_iconst d_bl_takeMoved_209 ic_1 ?_
            refine Ex_isubN (D.2.1) (1) d_bl_takeMoved_210 rfl rfl (by omega) ?_
            refine Ex_iload d_bl_takeMoved_211 rfl ?_
            refine Ex_isubN (D.2.1 - 1) (j) d_bl_takeMoved_213 rfl rfl (by omega) ?_
            refine Ex_iload d_bl_takeMoved_214 rfl ?_
            refine Ex_iload d_bl_takeMoved_216 rfl ?_
            refine Ex_cV3 d_bl_takeMoved_218 pk_bl_takeMoved_40 (Bob_of hs1 hk).1 (bl_setCell_s hs1 hk hI.2.1 hI.2.2.1 hcapT (i := (D.2.1 - 1) - j) (j := i) (by omega) (by omega) _) ?_
            rintro rv h2 ⟨rfl, rfl⟩
            rw [show ((D.2.1 - 1) - j) * tC m D.1 D.2.1 + i = toK m D.1 D.2.1 (i * D.2.1 + j) by rw [hto, e1, e2]]
            show Ex S bl_takeMoved 221 [some (.ref (a)), some (.ref (a2)), some (.int (nI (m))), some (.ref 1), some (.int (ac)), some (.int (nI (i))), some (.int (nI (j))), some (.int (eA (mvA K (D.2.2 (i * D.2.1 + j)) m))), some (.int (nI (j)))] [] (wI h1 b (toK m D.1 D.2.1 (i * D.2.1 + j)) (eA (mvA K (D.2.2 (i * D.2.1 + j)) m))) _
            refine Ex_iincN (j) 1 [some (.ref (a)), some (.ref (a2)), some (.int (nI (m))), some (.ref 1), some (.int (ac)), some (.int (nI (i))), some (.int (nI (j + 1))), some (.int (eA (mvA K (D.2.2 (i * D.2.1 + j)) m))), some (.int (nI (j)))] d_bl_takeMoved_221 rfl rfl rfl rfl ?_
            refine Ex_goto 69 d_bl_takeMoved_224 rfl ?_
            refine Ex_forget (ls' := [some (.ref (a)), some (.ref (a2)), some (.int (nI (m))), some (.ref 1), some (.int (ac)), some (.int (nI (i))), some (.int (nI (j + 1))), none, none]) (sub_s (sub_s (sub_s (sub_s (sub_s (sub_s (sub_s (sub_n (sub_n sub_0))))))))) ?_
            refine ih (j + 1) (by omega) _ ⟨Fr.sI f1 (Or.inl rfl), by rw [mI_oth (Or.inl (by unfold bkOK at hk; omega))]; exact hI.2.1, by rw [mI_oth (Or.inl (by unfold bkOK at hk; omega))]; exact hI.2.2.1, fun t ht0 => ?_⟩
            by_cases htk : t = i * D.2.1 + j
            · subst htk
              rw [mI_self]
            · rw [mI_oth (Or.inr (fun z => htk (to_inj (by omega) hx z)))]
              exact hI.2.2.2 t (by omega)
          · exfalso; omega
theorem bl_takeMoved_L2 {S : mj_S} {Q : Option Value → mj_H → Prop} {h : mj_H} (hs : HT h) {a b cap a2 b2 cap2 : Nat} (hk : bkOK a b cap) (hk2 : bkOK a2 b2 cap2) (hne : a ≠ a2) {K : SK} (hK : KC K h) (hO : KO K) {D : SG} (hD : BkC D a2 b2 h) (hcap2 : D.1 * D.2.1 ≤ cap2) (hcap : D.1 * D.2.1 ≤ cap) (hDO : ∀ k, k < D.1 * D.2.1 → okA K.1 (D.2.2 k)) (hd1 : D.1 ≤ 60) (hd2 : D.2.1 ≤ 60) {m : Nat} (hm : m < 8) {ac : Int32}
    (kx : ∀ h1 : mj_H, (Fr (Wbk a b) h h1 ∧ mI h1 a 0 = nI (tR m D.1 D.2.1) ∧ mI h1 a 1 = nI (tC m D.1 D.2.1) ∧ ∀ k, k < (D.1) * D.2.1 → mI h1 b (toK m D.1 D.2.1 k) = eA (mvA K (D.2.2 k) m)) → Ex S bl_takeMoved 233 [some (.ref (a)), some (.ref (a2)), some (.int (nI (m))), some (.ref 1), some (.int (ac)), some (.int (nI (D.1))), none, none, none] [] h1 Q) : ∀ d i : Nat, i + d = D.1 → ∀ h1 : mj_H, (Fr (Wbk a b) h h1 ∧ mI h1 a 0 = nI (tR m D.1 D.2.1) ∧ mI h1 a 1 = nI (tC m D.1 D.2.1) ∧ ∀ k, k < i * D.2.1 → mI h1 b (toK m D.1 D.2.1 k) = eA (mvA K (D.2.2 k) m)) → Ex S bl_takeMoved 57 [some (.ref (a)), some (.ref (a2)), some (.int (nI (m))), some (.ref 1), some (.int (ac)), some (.int (nI (i))), none, none, none] [] h1 Q := by
  intro d
  induction d with
  | zero =>
    intro i hkk h1 hI
    obtain rfl : D.1 = i := by omega
    have f1 := hI.1
    have hs1 : HT h1 := f1.ht hs (Wbk_st hk)
    have hD1 : BkC D a2 b2 h1 := BkC_fr hs hk2 f1 (by intro x k; unfold Wbk; unfold bkOK at hk hk2; omega) hD
    refine Ex_iload d_bl_takeMoved_57 rfl ?_
    refine Ex_aload_n d_bl_takeMoved_59 rfl ?_
    refine Ex_getIE d_bl_takeMoved_60 pf_bl_19 rfl (Bob_of hs1 hk2).1 hD1.1 ?_
    refine Ex_icmp_geN (D.1) (D.1) 233 d_bl_takeMoved_63 rfl rfl rfl (by omega) (by omega) (fun hc63 => ?_) (fun hc63 => ?_)
    · exact kx h1 hI
    · exfalso; omega
  | succ d ih =>
    intro i hkk h1 hI
    have f1 := hI.1
    have hs1 : HT h1 := f1.ht hs (Wbk_st hk)
    have hD1 : BkC D a2 b2 h1 := BkC_fr hs hk2 f1 (by intro x k; unfold Wbk; unfold bkOK at hk hk2; omega) hD
    refine Ex_iload d_bl_takeMoved_57 rfl ?_
    refine Ex_aload_n d_bl_takeMoved_59 rfl ?_
    refine Ex_getIE d_bl_takeMoved_60 pf_bl_19 rfl (Bob_of hs1 hk2).1 hD1.1 ?_
    refine Ex_icmp_geN (i) (D.1) 233 d_bl_takeMoved_63 rfl rfl rfl (by omega) (by omega) (fun hc63 => ?_) (fun hc63 => ?_)
    · exfalso; omega
    · refine Ex_iconst d_bl_takeMoved_66 ic_0 ?_
      refine Ex_istore [some (.ref (a)), some (.ref (a2)), some (.int (nI (m))), some (.ref 1), some (.int (ac)), some (.int (nI (i))), some (.int (0)), none, none] d_bl_takeMoved_67 (Nat.le_of_ble_eq_true rfl) rfl ?_
      refine bl_takeMoved_L1 hs hk hk2 hne hK hO hD hcap2 hcap hDO hd1 hd2 hm (show i < D.1 by omega) (fun h2 hI2 => ?_) D.2.1 0 (by omega) h1 hI
      refine Ex_iincN (i) 1 [some (.ref (a)), some (.ref (a2)), some (.int (nI (m))), some (.ref 1), some (.int (ac)), some (.int (nI (i + 1))), some (.int (nI (D.2.1))), none, none] d_bl_takeMoved_227 rfl rfl rfl rfl ?_
      refine Ex_goto 57 d_bl_takeMoved_230 rfl ?_
      refine Ex_forget (ls' := [some (.ref (a)), some (.ref (a2)), some (.int (nI (m))), some (.ref 1), some (.int (ac)), some (.int (nI (i + 1))), none, none, none]) (sub_s (sub_s (sub_s (sub_s (sub_s (sub_s (sub_n (sub_n (sub_n sub_0))))))))) ?_
      refine ih (i + 1) (by omega) h2 ⟨hI2.1, hI2.2.1, hI2.2.2.1, fun k hk => hI2.2.2.2 k ?_⟩
      rw [Nat.add_mul, Nat.one_mul] at hk
      exact hk
theorem bl_takeMoved_s {S : mj_S} {h : mj_H} (hs : HT h) {a b cap a2 b2 cap2 : Nat} (hk : bkOK a b cap) (hk2 : bkOK a2 b2 cap2) (hne : a ≠ a2) {K : SK} (hK : KC K h) (hO : KO K) {D : SG} (hD : BkC D a2 b2 h) (hcap2 : D.1 * D.2.1 ≤ cap2) (hcap : D.1 * D.2.1 ≤ cap) (hDO : ∀ k, k < D.1 * D.2.1 → okA K.1 (D.2.2 k)) (hd1 : D.1 ≤ 60) (hd2 : D.2.1 ≤ 60) {m : Nat} (hm : m < 8) : Cl S bl_takeMoved [.ref a, .ref a2, .int (nI m), .ref 1] h (fun r h' => r = none ∧ BkC (tnG K D m) a b h' ∧ Fr (Wbk a b) h h') := by
  show Ex S bl_takeMoved 0 [some (.ref (a)), some (.ref (a2)), some (.int (nI (m))), some (.ref 1), none, none, none, none, none] [] h _
  have hb := Bob_of hs hk
  have hb2 := Bob_of hs hk2
  rcases (show m % 2 = 0 ∨ m % 2 = 1 by omega) with h2 | h2
  · have hR : tR m D.1 D.2.1 = D.1 := by unfold tR; rw [if_pos h2]
    have hC : tC m D.1 D.2.1 = D.2.1 := by unfold tC; rw [if_pos h2]
    refine Ex_iload_n d_bl_takeMoved_0 rfl ?_
    refine Ex_iconst d_bl_takeMoved_1 ic_1 ?_
    refine Ex_iand d_bl_takeMoved_2 ?_
    rw [show (((nI (m)) &&& (1 : Int32)) : Int32) = (nI (m % 2)) from (nI_1m m)]
    refine Ex_iconst d_bl_takeMoved_3 ic_1 ?_
    refine Ex_icmp_neN (m % 2) (1) 11 d_bl_takeMoved_4 rfl rfl rfl (by omega) (by omega) (fun hc4 => ?_) (fun hc4 => ?_)
    · refine Ex_iconst d_bl_takeMoved_11 ic_0 ?_
      refine Ex_istore [some (.ref (a)), some (.ref (a2)), some (.int (nI (m))), some (.ref 1), some (.int (0)), none, none, none, none] d_bl_takeMoved_12 (Nat.le_of_ble_eq_true rfl) rfl ?_
      refine Ex_aload_n d_bl_takeMoved_14 rfl ?_
      refine Ex_iload d_bl_takeMoved_15 rfl ?_
      refine Ex_if_eqN (0) 27 d_bl_takeMoved_17 rfl rfl (by omega) (fun hc17 => ?_) (fun hc17 => ?_)
      · refine Ex_aload_n d_bl_takeMoved_27 rfl ?_
        refine Ex_getIE d_bl_takeMoved_28 pf_bl_19 rfl hb2.1 hD.1 ?_
        refine Ex_putI d_bl_takeMoved_31 pf_bl_19 (Or.inl rfl) hb.1 (Or.inl rfl) ?_
        have hne2 : a2 ≠ a := fun z => hne z.symm
        refine Ex_aload_n d_bl_takeMoved_34 rfl ?_
        refine Ex_iload d_bl_takeMoved_35 rfl ?_
        refine Ex_if_eqN (0) 47 d_bl_takeMoved_37 rfl rfl (by omega) (fun hc37 => ?_) (fun hc37 => ?_)
        · refine Ex_aload_n d_bl_takeMoved_47 rfl ?_
          refine Ex_getIE (y := (nI (D.2.1))) d_bl_takeMoved_48 pf_bl_23 rfl hb2.1 (by rw [mI_oth (Or.inl (by omega))]; exact hD.2.1) ?_
          refine Ex_putI d_bl_takeMoved_51 pf_bl_23 (Or.inl rfl) hb.1 (Or.inl rfl) ?_
          refine Ex_iconst d_bl_takeMoved_54 ic_0 ?_
          refine Ex_istore [some (.ref (a)), some (.ref (a2)), some (.int (nI (m))), some (.ref 1), some (.int (0)), some (.int (0)), none, none, none] d_bl_takeMoved_55 (Nat.le_of_ble_eq_true rfl) rfl ?_
          refine bl_takeMoved_L2 (ac := 0) hs hk hk2 hne hK hO hD hcap2 hcap hDO hd1 hd2 hm (fun h1 hI => ?_) D.1 0 (by omega) _ ⟨Fr.sI (Fr.sI Fr.rf (Or.inr ⟨rfl, Or.inl rfl⟩)) (Or.inr ⟨rfl, Or.inr rfl⟩), by rw [mI_oth (Or.inr (by decide)), mI_self, hR], by rw [mI_self, hC], fun k hk => absurd hk (by omega)⟩
          refine Ex_return d_bl_takeMoved_233 rfl ?_
          refine ⟨rfl, ⟨hI.2.1, hI.2.2.1, fun k hk0 => ?_⟩, hI.1⟩
          have hk0 : k < D.1 * D.2.1 := by rw [← t_mul m]; exact hk0
          have z := hI.2.2.2 _ (fromK_lt (m := m) hk0)
          rw [to_from hk0] at z
          exact z
        · exact absurd hc37 (by decide)
      · exact absurd hc17 (by decide)
    · exfalso; omega
  · have hR : tR m D.1 D.2.1 = D.2.1 := by unfold tR; rw [if_neg (by omega)]
    have hC : tC m D.1 D.2.1 = D.1 := by unfold tC; rw [if_neg (by omega)]
    refine Ex_iload_n d_bl_takeMoved_0 rfl ?_
    refine Ex_iconst d_bl_takeMoved_1 ic_1 ?_
    refine Ex_iand d_bl_takeMoved_2 ?_
    rw [show (((nI (m)) &&& (1 : Int32)) : Int32) = (nI (m % 2)) from (nI_1m m)]
    refine Ex_iconst d_bl_takeMoved_3 ic_1 ?_
    refine Ex_icmp_neN (m % 2) (1) 11 d_bl_takeMoved_4 rfl rfl rfl (by omega) (by omega) (fun hc4 => ?_) (fun hc4 => ?_)
    · exfalso; omega
    · refine Ex_iconst d_bl_takeMoved_7 ic_1 ?_
      refine Ex_goto 12 d_bl_takeMoved_8 rfl ?_
      refine Ex_istore [some (.ref (a)), some (.ref (a2)), some (.int (nI (m))), some (.ref 1), some (.int (1)), none, none, none, none] d_bl_takeMoved_12 (Nat.le_of_ble_eq_true rfl) rfl ?_
      refine Ex_aload_n d_bl_takeMoved_14 rfl ?_
      refine Ex_iload d_bl_takeMoved_15 rfl ?_
      refine Ex_if_eqN (1) 27 d_bl_takeMoved_17 rfl rfl (by omega) (fun hc17 => ?_) (fun hc17 => ?_)
      · exact absurd hc17 (by decide)
      · refine Ex_aload_n d_bl_takeMoved_20 rfl ?_
        refine Ex_getIE d_bl_takeMoved_21 pf_bl_23 rfl hb2.1 hD.2.1 ?_
        refine Ex_goto 31 d_bl_takeMoved_24 rfl ?_
        refine Ex_putI d_bl_takeMoved_31 pf_bl_19 (Or.inl rfl) hb.1 (Or.inl rfl) ?_
        have hne2 : a2 ≠ a := fun z => hne z.symm
        refine Ex_aload_n d_bl_takeMoved_34 rfl ?_
        refine Ex_iload d_bl_takeMoved_35 rfl ?_
        refine Ex_if_eqN (1) 47 d_bl_takeMoved_37 rfl rfl (by omega) (fun hc37 => ?_) (fun hc37 => ?_)
        · exact absurd hc37 (by decide)
        · refine Ex_aload_n d_bl_takeMoved_40 rfl ?_
          refine Ex_getIE (y := (nI (D.1))) d_bl_takeMoved_41 pf_bl_19 rfl hb2.1 (by rw [mI_oth (Or.inl (by omega))]; exact hD.1) ?_
          refine Ex_goto 51 d_bl_takeMoved_44 rfl ?_
          refine Ex_putI d_bl_takeMoved_51 pf_bl_23 (Or.inl rfl) hb.1 (Or.inl rfl) ?_
          refine Ex_iconst d_bl_takeMoved_54 ic_0 ?_
          refine Ex_istore [some (.ref (a)), some (.ref (a2)), some (.int (nI (m))), some (.ref 1), some (.int (1)), some (.int (0)), none, none, none] d_bl_takeMoved_55 (Nat.le_of_ble_eq_true rfl) rfl ?_
          refine bl_takeMoved_L2 (ac := 1) hs hk hk2 hne hK hO hD hcap2 hcap hDO hd1 hd2 hm (fun h1 hI => ?_) D.1 0 (by omega) _ ⟨Fr.sI (Fr.sI Fr.rf (Or.inr ⟨rfl, Or.inl rfl⟩)) (Or.inr ⟨rfl, Or.inr rfl⟩), by rw [mI_oth (Or.inr (by decide)), mI_self, hR], by rw [mI_self, hC], fun k hk => absurd hk (by omega)⟩
          refine Ex_return d_bl_takeMoved_233 rfl ?_
          refine ⟨rfl, ⟨hI.2.1, hI.2.2.1, fun k hk0 => ?_⟩, hI.1⟩
          have hk0 : k < D.1 * D.2.1 := by rw [← t_mul m]; exact hk0
          have z := hI.2.2.2 _ (fromK_lt (m := m) hk0)
          rw [to_from hk0] at z
          exact z
