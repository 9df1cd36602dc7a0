/-! The class: rows made, rows put into patterns and taken out. -/
def WRn (a k : Nat) : Prop := WRe a k ∨ Wal a k
theorem WRe_n {a k : Nat} (z : WRe a k) : WRn a k := Or.inl z
theorem WRc_W {Y : OW} {a k : Nat} (z : WRc Y a k) : ¬ Wal a k := by
  unfold WRc Wal at *
  omega
/-- what was made: the cells' number and their slots -/
def Gr (c s : Nat) (h h' : mj_H) : Prop := mN h' = mN h + c ∧ mZ h' ≤ mZ h + s
theorem Gr.of {W : Nat → Nat → Prop} {h h' : mj_H} (f : Fr W h h') (hw : ¬ W 0 1000000000) : Gr 0 0 h h' := by
  have := f.nz hw
  exact ⟨this.1, by omega⟩
theorem Gr.tr {a b c d : Nat} {h h1 h2 : mj_H} (f : Gr a b h h1) (g : Gr c d h1 h2) : Gr (a + c) (b + d) h h2 := by
  obtain ⟨f1, f2⟩ := f
  obtain ⟨g1, g2⟩ := g
  exact ⟨by omega, by omega⟩
theorem Gr.mono {a b c : Nat} {h h1 : mj_H} (f : Gr a b h h1) (hc : b ≤ c) : Gr a c h h1 := ⟨f.1, by have := f.2; omega⟩
theorem WRe_0 : ¬ WRe 0 1000000000 := by unfold WRe; omega
theorem rs_make_s {S : mj_S} {h : mj_H} (hs : HT h) {P : SP} {Y : OW} (hR : RwC P Y h) {n : Nat} (hQ : PO n P) (hm : pMd P < 6000) {l : Nat} (hl : l ≤ 60) {z : Int} (hz : -30 ≤ z ∧ z ≤ 30) : Cl S rs_make [.ref 21, .int (nI (l)), .int (J (z))] h (fun r h' => r = some (.int (nI (pMd P))) ∧ (∃ Y', OwE h Y Y' ∧ RwC (newR P l (z) (fun _ => none)) Y' h') ∧ Fr WRn h h' ∧ Gr 1 60 h h') := by
  show Ex S rs_make 0 [some (.ref 21), some (.int (nI (l))), some (.int (J (z))), none] [] h _
  have hmd : pMd P ≤ 6000 := hQ.1
  refine Ex_aload_n d_rs_make_0 rfl ?_
  refine Ex_getIE d_rs_make_1 pf_rs_20 rfl (t_21 hs) hR.1 ?_
  refine Ex_sipush d_rs_make_4 sp_6000 ?_
  refine Ex_icmp_geN (pMd P) (6000) 18 d_rs_make_7 rfl rfl rfl (by omega) (by omega) (fun hc7 => ?_) (fun hc7 => ?_)
  · exfalso; omega
  · refine Ex_iload_n d_rs_make_10 rfl ?_
    refine Ex_iload_n d_rs_make_11 rfl ?_
    refine Ex_pS2 d_rs_make_12 pk_rs_make_24 (show Cl S rs_mayBe [.int (nI l), .int (J z)] h _ by rw [nIJ]; exact rs_mayBe_s (by omega) (by omega)) ?_
    refine Ex_if_neB (decide (0 ≤ (l : Int) ∧ (l : Int) ≤ 60 ∧ -30 ≤ z ∧ z ≤ 30)) 20 d_rs_make_15 rfl rfl (fun hc15 => ?_) (fun hc15 => ?_)
    · rw [decide_eq_true_eq] at hc15
      refine Ex_iload_n d_rs_make_20 rfl ?_
      refine Ex_newarrayN (a := l) d_rs_make_21 (Or.inl ⟨rfl, rfl⟩) pw_ai rfl (by omega) ?_
      have hs1 : HT (mNew h 0 l) := HT_new hs _ _
      refine Ex_astore_n [some (.ref 21), some (.int (nI (l))), some (.int (J (z))), some (.ref ((mN h)))] d_rs_make_23 (Nat.le_of_ble_eq_true rfl) rfl ?_
      refine Ex_aload_n d_rs_make_24 rfl ?_
      refine Ex_iconst d_rs_make_25 ic_m1 ?_
      refine Ex_cS2 d_rs_make_26 pk_rs_make_30 (jd_fillI_s (mT_new_self h 0 l) (by omega)) ?_
      rintro _ _ ⟨rfl, rfl⟩
      have hs2 : HT (wA (mNew h 0 l) (mN h) (flF (mI (mNew h 0 l) (mN h)) (-1) l)) := HT_wA hs1 _ _
      show Ex S rs_make 29 [some (.ref 21), some (.int (nI (l))), some (.int (J (z))), some (.ref ((mN h)))] [] (wA (mNew h 0 l) (mN h) (flF (mI (mNew h 0 l) (mN h)) (-1) l)) _
      let Y1 : OW := va_up Y (mN h) (0, pMd P)
      have oY : OwE h Y Y1 := OwE.up (Nat.le_refl _)
      have hfr : Fr WRn h (wA (mNew h 0 l) (mN h) (flF (mI (mNew h 0 l) (mN h)) (-1) l)) := Fr.xA (Fr.nw Fr.rf (Or.inr ⟨rfl, rfl⟩) 0 l) (Nat.le_refl _)
      have hR1 : RwC P Y1 (wA (mNew h 0 l) (mN h) (flF (mI (mNew h 0 l) (mN h)) (-1) l)) := RwC_fr (W := Wal) hs (Fr.xA (Fr.nw Fr.rf ⟨rfl, rfl⟩ 0 l) (Nat.le_refl _)) (fun _ _ => WRc_W) oY hR
      have hn74 := HT_n hs
      refine Ex_aload_n d_rs_make_29 rfl ?_
      refine Ex_aload_n d_rs_make_30 rfl ?_
      refine Ex_iload_n d_rs_make_31 rfl ?_
      refine Ex_cV2 d_rs_make_32 pk_rs_make_36 (t_21 hs2) (rs_enter_s (Y := Y1) (c := fun _ => none) hs2 hR1 hQ hm ⟨by omega, by unfold Y1 va_up; rw [if_pos rfl]⟩ (mT_new_self h 0 l) (fun k hk => by rw [mI_wA, if_pos rfl, flF_in hk]; rfl)) ?_
      rintro rv h9 e1
      obtain ⟨rfl, e2, e3⟩ := e1
      show Ex S rs_make 35 [some (.ref 21), some (.int (nI (l))), some (.int (J (z))), some (.ref ((mN h)))] [.int (nI (pMd P))] h9 _
      refine Ex_ireturn d_rs_make_35 rfl ?_
      refine ⟨rfl, ⟨Y1, oY, e2⟩, hfr.tr (e3.mono (fun _ _ => WRe_n)), ?_⟩
      have g1 : Gr 1 60 h (wA (mNew h 0 l) (mN h) (flF (mI (mNew h 0 l) (mN h)) (-1) l)) := ⟨mN_new h 0 _, by have := mZ_new h 0 (l); show mZ (mNew h 0 (l)) ≤ _; omega⟩
      exact g1.tr (Gr.of e3 WRe_0)
    · rw [decide_eq_false_iff_not] at hc15
      exfalso; omega
theorem rs_makeLike_s {S : mj_S} {h : mj_H} (hs : HT h) {P : SP} {Y : OW} (hR : RwC P Y h) {n : Nat} (hQ : PO n P) (hm : pMd P < 6000) {q x : Nat} (hq : q < pMd P) (h1 : RwC1 P Y h q x) : Cl S rs_makeLike [.ref 21, .int (nI (q))] h (fun r h' => r = some (.int (nI (pMd P))) ∧ (∃ Y', OwE h Y Y' ∧ RwC (newR P (pL P q) (pO P q) (pC P q)) Y' h') ∧ Fr WRn h h' ∧ Gr 1 60 h h') := by
  show Ex S rs_makeLike 0 [some (.ref 21), some (.int (nI (q))), none] [] h _
  have hmd : pMd P ≤ 6000 := hQ.1
  refine Ex_aload_n d_rs_makeLike_0 rfl ?_
  refine Ex_iload_n d_rs_makeLike_1 rfl ?_
  refine Ex_pV1 d_rs_makeLike_2 pk_rs_makeLike_40 (t_21 hs) (rs_cellsOf_s hs hR hQ hq h1) ?_
  refine Ex_astore_n [some (.ref 21), some (.int (nI (q))), some (.ref (x))] d_rs_makeLike_5 (Nat.le_of_ble_eq_true rfl) rfl ?_
  refine Ex_aload_n d_rs_makeLike_6 rfl ?_
  refine Ex_ifnull d_rs_makeLike_7 ?_
  refine Ex_aload_n d_rs_makeLike_10 rfl ?_
  refine Ex_getIE d_rs_makeLike_11 pf_rs_20 rfl (t_21 hs) hR.1 ?_
  refine Ex_sipush d_rs_makeLike_14 sp_6000 ?_
  refine Ex_icmp_ltN (pMd P) (6000) 24 d_rs_makeLike_17 rfl rfl rfl (by omega) (by omega) (fun hc17 => ?_) (fun hc17 => ?_)
  · refine Ex_aload_n d_rs_makeLike_24 rfl ?_
    refine Ex_aload_n d_rs_makeLike_25 rfl ?_
    refine Ex_clone d_rs_makeLike_26 pm_rs_44 pw_cs pw_cn pw_ci pw_cl rfl ⟨Nat.le_of_ble_eq_true rfl, Nat.le_of_ble_eq_true rfl⟩ h1.2.2.1 ?_
    have hs1 : HT (wA (mNew h 0 (pL P q)) (mN h) (mI h x)) := HT_wA (HT_new hs _ _) _ _
    refine Ex_checkcastA d_rs_makeLike_29 pc_rs_15 (mT_new_self _ _ _) ?_
    let Y1 : OW := va_up Y (mN h) (0, pMd P)
    have oY : OwE h Y Y1 := OwE.up (Nat.le_refl _)
    have hfr : Fr WRn h (wA (mNew h 0 (pL P q)) (mN h) (mI h x)) := Fr.xA (Fr.nw Fr.rf (Or.inr ⟨rfl, rfl⟩) 0 _) (Nat.le_refl _)
    have hfw : Fr Wal h (wA (mNew h 0 (pL P q)) (mN h) (mI h x)) := Fr.xA (Fr.nw Fr.rf ⟨rfl, rfl⟩ 0 _) (Nat.le_refl _)
    have hR1 : RwC P Y1 (wA (mNew h 0 (pL P q)) (mN h) (mI h x)) := RwC_fr (W := Wal) hs hfw (fun _ _ => WRc_W) oY hR
    have h11 : RwC1 P Y1 (wA (mNew h 0 (pL P q)) (mN h) (mI h x)) q x := RwC1_fr (W := Wal) hs hfw (by unfold Wal; omega) (by unfold Wal; omega) (fun k => by have := h1.1.1; unfold Wal; omega) oY h1
    have hn74 := HT_n hs
    refine Ex_aload_n d_rs_makeLike_32 rfl ?_
    refine Ex_iload_n d_rs_makeLike_33 rfl ?_
    refine Ex_pV1 d_rs_makeLike_34 pk_rs_makeLike_48 (t_21 hs1) (rs_offsetOf_s hs1 hR1 hQ hq h11) ?_
    refine Ex_cV2 d_rs_makeLike_37 pk_rs_makeLike_36 (t_21 hs1) (rs_enter_s (Y := Y1) (c := pC P q) hs1 hR1 hQ hm ⟨by omega, by unfold Y1 va_up; rw [if_pos rfl]⟩ (mT_new_self h 0 _) (fun k hk => by rw [mI_wA, if_pos rfl]; exact h1.2.2.2.2 k hk)) ?_
    rintro rv h9 e1
    obtain ⟨rfl, e2, e3⟩ := e1
    show Ex S rs_makeLike 40 [some (.ref 21), some (.int (nI (q))), some (.ref (x))] [.int (nI (pMd P))] h9 _
    refine Ex_ireturn d_rs_makeLike_40 rfl ?_
    have hL := (hQ.2.1 q hq).1
    refine ⟨rfl, ⟨Y1, oY, e2⟩, hfr.tr (e3.mono (fun _ _ => WRe_n)), ?_⟩
    have g1 : Gr 1 60 h (wA (mNew h 0 (pL P q)) (mN h) (mI h x)) := ⟨mN_new h 0 _, by have := mZ_new h 0 (pL P q); show mZ (mNew h 0 (pL P q)) ≤ _; omega⟩
    exact g1.tr (Gr.of e3 WRe_0)
  · exfalso; omega
theorem rs_setCell_s {S : mj_S} {h : mj_H} (hs : HT h) {P : SP} {Y : OW} (hR : RwC P Y h) {n : Nat} (hQ : PO n P) {q x : Nat} (hq : q < pMd P) (h1 : RwC1 P Y h q x) {j : Int} (hj : pO P q ≤ j ∧ j < pO P q + pL P q) {c : Tl} : Cl S rs_setCell [.ref 21, .int (nI (q)), .int (J (j)), .int (eC c)] h (fun r h' => r = none ∧ RwC (uCell P q (j - pO P q).toNat c) Y h' ∧ Fr (fun a k => a = x ∧ k = (j - pO P q).toNat) h h') := by
  show Ex S rs_setCell 0 [some (.ref 21), some (.int (nI (q))), some (.int (J (j))), some (.int (eC c)), none, none] [] h _
  refine Ex_aload_n d_rs_setCell_0 rfl ?_
  refine Ex_iload_n d_rs_setCell_1 rfl ?_
  refine Ex_pV1 d_rs_setCell_2 pk_rs_setCell_40 (t_21 hs) (rs_cellsOf_s hs hR hQ hq h1) ?_
  refine Ex_astore [some (.ref 21), some (.int (nI (q))), some (.int (J (j))), some (.int (eC c)), some (.ref (x)), none] d_rs_setCell_5 (Nat.le_of_ble_eq_true rfl) rfl ?_
  have hro := hQ.2.1 q hq
  obtain ⟨k, hk⟩ : ∃ k : Nat, (k : Int) = j - pO P q := ⟨(j - pO P q).toNat, by omega⟩
  have hkl : k < pL P q := by omega
  refine Ex_iload_n d_rs_setCell_7 rfl ?_
  refine Ex_aload_n d_rs_setCell_8 rfl ?_
  refine Ex_iload_n d_rs_setCell_9 rfl ?_
  refine Ex_pV1 d_rs_setCell_10 pk_rs_setCell_48 (t_21 hs) (rs_offsetOf_s hs hR hQ hq h1) ?_
  refine Ex_isubZ (j) (pO P q) d_rs_setCell_13 rfl rfl ?_
  rw [show ((J (j - (pO P q))) : Int32) = (nI (k)) from (by rw [← hk, nIJ])]
  refine Ex_istore [some (.ref 21), some (.int (nI (q))), some (.int (J (j))), some (.int (eC c)), some (.ref (x)), some (.int (nI (k)))] d_rs_setCell_14 (Nat.le_of_ble_eq_true rfl) rfl ?_
  refine Ex_aload d_rs_setCell_16 rfl ?_
  refine Ex_ifnull d_rs_setCell_18 ?_
  refine Ex_iload d_rs_setCell_21 rfl ?_
  refine Ex_if_ltN (k) 40 d_rs_setCell_23 rfl rfl (by omega) (fun hc23 => ?_) (fun hc23 => ?_)
  · exfalso; omega
  · refine Ex_iload d_rs_setCell_26 rfl ?_
    refine Ex_aload d_rs_setCell_28 rfl ?_
    refine Ex_arraylength d_rs_setCell_30 h1.2.2.1 (by decide) ?_
    refine Ex_icmp_geN (k) (pL P q) 40 d_rs_setCell_31 rfl rfl rfl (by omega) (by omega) (fun hc31 => ?_) (fun hc31 => ?_)
    · exfalso; omega
    · refine Ex_aload d_rs_setCell_34 rfl ?_
      refine Ex_iload d_rs_setCell_36 rfl ?_
      refine Ex_iload_n d_rs_setCell_38 rfl ?_
      refine Ex_iastoreN (a := k) d_rs_setCell_39 h1.2.2.1 rfl (by omega) (by omega) ?_
      refine Ex_return d_rs_setCell_40 rfl ?_
      have hkk : (j - pO P q).toNat = k := by omega
      rw [hkk]
      have h74 := h1.1.1
      refine ⟨rfl, ⟨by rw [mI_wI, if_neg (by omega)]; exact hR.1, fun r hr => ?_⟩, Fr.sI Fr.rf ⟨rfl, rfl⟩⟩
      obtain ⟨y, y1, y2, y3, y4, y5⟩ := hR.2 r hr
      refine ⟨y, y1, y2, y3, ?_, fun i hi => ?_⟩
      · have h74 := h1.1.1
        rw [mI_wI, if_neg (by omega)]
        exact y4
      · by_cases hr2 : r = q
        · subst hr2
          have hyx : y = x := Option.some.inj (y2.symm.trans h1.2.1)
          subst hyx
          show _ = eC (va_up (pC P) r (va_up (pC P r) k c) r i)
          rw [mI_wI, if_pos rfl]
          unfold va_up
          rw [if_pos rfl]
          by_cases hik : i = k
          · rw [if_pos hik, if_pos hik]
          · rw [if_neg hik, if_neg hik]
            exact y5 i hi
        · have hyx : y ≠ x := by
            rintro rfl
            have := y1.2.symm.trans h1.1.2
            simp at this
            exact hr2 this
          show _ = eC (va_up (pC P) q (va_up (pC P q) k c) r i)
          rw [mI_wI, if_neg hyx]
          unfold va_up
          rw [if_neg hr2]
          exact y5 i hi
theorem cpy_up (f : Nat → Int32) {n i : Nat} (h : i ≤ n) : va_cpy f f i (i + 1) (n - i) = upF f 0 n i := by
  funext x
  unfold va_cpy upF
  by_cases hx : i + 1 ≤ x ∧ x < i + 1 + (n - i)
  · rw [if_pos hx, if_pos (by omega)]
    congr 1
    omega
  · rw [if_neg hx, if_neg (by omega)]
theorem cpy_dn (f : Nat → Int32) {n i : Nat} (h : i < n) : va_cpy f f (i + 1) i (n - i - 1) = dnF f 0 i (n - 1) := by
  funext x
  unfold va_cpy dnF
  by_cases hx : i ≤ x ∧ x < i + (n - i - 1)
  · rw [if_pos hx, if_pos (by omega)]
    congr 1
    omega
  · rw [if_neg hx, if_neg (by omega)]
def Wab (a b x k : Nat) : Prop := x = b ∨ (x = a ∧ k = 2)
theorem pa_insertId_s {S : mj_S} {h : mj_H} {a b : Nat} {l : List Nat} (hB : Pob h a b l) (h60 : l.length < 60) {i r : Nat} (hi : i ≤ l.length) : Cl S pa_insertId [.ref (a), .int (nI (i)), .int (nI (r))] h (fun r' h' => r' = none ∧ Pob h' a b (insL l i r) ∧ Fr (Wab a b) h h') := by
  show Ex S pa_insertId 0 [some (.ref (a)), some (.int (nI (i))), some (.int (nI (r)))] [] h _
  refine Ex_aload_n d_pa_insertId_0 rfl ?_
  refine Ex_getIE d_pa_insertId_1 pf_pa_19 rfl hB.1.1 hB.2.1 ?_
  refine Ex_bipush d_pa_insertId_4 bp_60 ?_
  refine Ex_icmp_geN (l.length) (60) 59 d_pa_insertId_6 rfl rfl rfl (by omega) (by omega) (fun hc6 => ?_) (fun hc6 => ?_)
  · exfalso; omega
  · refine Ex_iload_n d_pa_insertId_9 rfl ?_
    refine Ex_if_ltN (i) 59 d_pa_insertId_10 rfl rfl (by omega) (fun hc10 => ?_) (fun hc10 => ?_)
    · exfalso; omega
    · refine Ex_iload_n d_pa_insertId_13 rfl ?_
      refine Ex_aload_n d_pa_insertId_14 rfl ?_
      refine Ex_getIE d_pa_insertId_15 pf_pa_19 rfl hB.1.1 hB.2.1 ?_
      refine Ex_icmp_gtN (i) (l.length) 59 d_pa_insertId_18 rfl rfl rfl (by omega) (by omega) (fun hc18 => ?_) (fun hc18 => ?_)
      · exfalso; omega
      · refine Ex_aload_n d_pa_insertId_21 rfl ?_
        refine Ex_getR d_pa_insertId_22 pf_pa_11 rfl hB.1.1 (congrArg va_rf hB.1.2.2.1) ?_
        refine Ex_iload_n d_pa_insertId_25 rfl ?_
        refine Ex_aload_n d_pa_insertId_26 rfl ?_
        refine Ex_getR d_pa_insertId_27 pf_pa_11 rfl hB.1.1 (congrArg va_rf hB.1.2.2.1) ?_
        refine Ex_iload_n d_pa_insertId_30 rfl ?_
        refine Ex_iconst d_pa_insertId_31 ic_1 ?_
        refine Ex_iaddN (i) (1) d_pa_insertId_32 rfl rfl ?_
        refine Ex_aload_n d_pa_insertId_33 rfl ?_
        refine Ex_getIE d_pa_insertId_34 pf_pa_19 rfl hB.1.1 hB.2.1 ?_
        refine Ex_iload_n d_pa_insertId_37 rfl ?_
        refine Ex_isubN (l.length) (i) d_pa_insertId_38 rfl rfl (by omega) ?_
        refine Ex_acN (i) (i + 1) (l.length - i) d_pa_insertId_39 pm_pa_44 rfl ⟨Nat.le_of_ble_eq_true rfl, Nat.le_of_ble_eq_true rfl⟩ hB.1.2.2.2 hB.1.2.2.2 rfl rfl rfl (by omega) (by omega) (by decide) (by decide) ?_
        refine Ex_aload_n d_pa_insertId_42 rfl ?_
        refine Ex_getR d_pa_insertId_43 pf_pa_11 rfl hB.1.1 (congrArg va_rf hB.1.2.2.1) ?_
        refine Ex_iload_n d_pa_insertId_46 rfl ?_
        refine Ex_iload_n d_pa_insertId_47 rfl ?_
        refine Ex_iastoreN (a := i) d_pa_insertId_48 hB.1.2.2.2 rfl (by omega) (by decide) ?_
        refine Ex_aload_n d_pa_insertId_49 rfl ?_
        refine Ex_dup rfl d_pa_insertId_50 ?_
        refine Ex_getIE (y := (nI (l.length))) d_pa_insertId_51 pf_pa_19 rfl hB.1.1 (by rw [mI_wI, if_neg (Pob_ne hB), mI_wA, if_neg (Pob_ne hB)]; exact hB.2.1) ?_
        refine Ex_iconst d_pa_insertId_54 ic_1 ?_
        refine Ex_iaddN (l.length) (1) d_pa_insertId_55 rfl rfl ?_
        refine Ex_putI d_pa_insertId_56 pf_pa_19 (Or.inl rfl) hB.1.1 (Or.inl rfl) ?_
        refine Ex_return d_pa_insertId_59 rfl ?_
        have hab := Pob_ne hB
        refine ⟨rfl, ⟨⟨hB.1.1, hB.1.2.1, hB.1.2.2.1, hB.1.2.2.2⟩, ?_, fun k hk => ?_⟩, Fr.sI (Fr.sI (Fr.sA Fr.rf (fun k hk => absurd (Or.inl rfl) hk)) (Or.inl rfl)) (Or.inr ⟨rfl, rfl⟩)⟩
        · rw [mI_wI, if_pos rfl, if_pos rfl, insL_len hi]
        · rw [mI_wI, if_neg (Ne.symm hab), wI_wA, mI_wA, if_pos rfl, cpy_up _ hi]
          have z := upF_get (f := mI h b) (a := 0) (l := l) (x := r) (t := i) (fun x hx => by rw [Nat.zero_add]; exact hB.2.2 x hx) hi k hk
          simp only [Nat.zero_add] at z
          exact z
theorem pa_removeId_s {S : mj_S} {h : mj_H} {a b : Nat} {l : List Nat} (hB : Pob h a b l) (h60 : l.length ≤ 60) {i : Nat} (hi : i < l.length) : Cl S pa_removeId [.ref (a), .int (nI (i))] h (fun r' h' => r' = none ∧ Pob h' a b (delL l i) ∧ Fr (Wab a b) h h') := by
  show Ex S pa_removeId 0 [some (.ref (a)), some (.int (nI (i)))] [] h _
  refine Ex_aload_n d_pa_removeId_0 rfl ?_
  refine Ex_iload_n d_pa_removeId_1 rfl ?_
  refine Ex_i2lZ (((i : Nat) : Int)) d_pa_removeId_2 (nIJ _) (by omega) ?_
  refine Ex_pV1 d_pa_removeId_3 pk_pa_removeId_23 hB.1.1 (pa_hasRow_s hB h60 (by omega)) ?_
  refine Ex_if_eqB (decide (0 ≤ (i : Int) ∧ (i : Int) < l.length)) 42 d_pa_removeId_6 rfl rfl (fun hc6 => ?_) (fun hc6 => ?_)
  · rw [decide_eq_false_iff_not] at hc6
    exfalso; omega
  · rw [decide_eq_true_eq] at hc6
    refine Ex_aload_n d_pa_removeId_9 rfl ?_
    refine Ex_getR d_pa_removeId_10 pf_pa_11 rfl hB.1.1 (congrArg va_rf hB.1.2.2.1) ?_
    refine Ex_iload_n d_pa_removeId_13 rfl ?_
    refine Ex_iconst d_pa_removeId_14 ic_1 ?_
    refine Ex_iaddN (i) (1) d_pa_removeId_15 rfl rfl ?_
    refine Ex_aload_n d_pa_removeId_16 rfl ?_
    refine Ex_getR d_pa_removeId_17 pf_pa_11 rfl hB.1.1 (congrArg va_rf hB.1.2.2.1) ?_
    refine Ex_iload_n d_pa_removeId_20 rfl ?_
    refine Ex_aload_n d_pa_removeId_21 rfl ?_
    refine Ex_getIE d_pa_removeId_22 pf_pa_19 rfl hB.1.1 hB.2.1 ?_
    refine Ex_iload_n d_pa_removeId_25 rfl ?_
    refine Ex_isubN (l.length) (i) d_pa_removeId_26 rfl rfl (by omega) ?_
    refine Ex_iconst d_pa_removeId_27 ic_1 ?_
    refine Ex_isubN (l.length - i) (1) d_pa_removeId_28 rfl rfl (by omega) ?_
    refine Ex_acN (i + 1) (i) ((l.length - i) - 1) d_pa_removeId_29 pm_pa_44 rfl ⟨Nat.le_of_ble_eq_true rfl, Nat.le_of_ble_eq_true rfl⟩ hB.1.2.2.2 hB.1.2.2.2 rfl rfl rfl (by omega) (by omega) (by decide) (by decide) ?_
    refine Ex_aload_n d_pa_removeId_32 rfl ?_
    refine Ex_dup rfl d_pa_removeId_33 ?_
    refine Ex_getIE (y := (nI (l.length))) d_pa_removeId_34 pf_pa_19 rfl hB.1.1 (by rw [mI_wA, if_neg (Pob_ne hB)]; exact hB.2.1) ?_
    refine Ex_iconst d_pa_removeId_37 ic_1 ?_
    refine Ex_isubN (l.length) (1) d_pa_removeId_38 rfl rfl (by omega) ?_
    refine Ex_putI d_pa_removeId_39 pf_pa_19 (Or.inl rfl) hB.1.1 (Or.inl rfl) ?_
    refine Ex_return d_pa_removeId_42 rfl ?_
    have hab := Pob_ne hB
    refine ⟨rfl, ⟨⟨hB.1.1, hB.1.2.1, hB.1.2.2.1, hB.1.2.2.2⟩, ?_, fun k hk => ?_⟩, Fr.sI (Fr.sA Fr.rf (fun k hk => absurd (Or.inl rfl) hk)) (Or.inr ⟨rfl, rfl⟩)⟩
    · rw [mI_wI, if_pos rfl, if_pos rfl, delL_len hi]
    · rw [mI_wI, if_neg (Ne.symm hab), mI_wA, if_pos rfl, cpy_dn _ hi]
      have z := dnF_get (f := mI h b) (a := 0) (l := l) (i := i) (fun x hx => by rw [Nat.zero_add]; exact hB.2.2 x hx) hi k hk
      simp only [Nat.zero_add] at z
      exact z
theorem pa_takeRows_s {S : mj_S} {h : mj_H} {a b : Nat} {l l' : List Nat} (hB : Pob h a b l) {x m s : Nat} (hx : mT h x = some (0, m)) (hm : m ≤ 1000000) (hl : l'.length ≤ 60) (hsl : s + l'.length ≤ m) (hg : ∀ k, k < l'.length → mI h x (s + k) = nI (l'.getD k 0)) : Cl S pa_takeRows [.ref (a), .ref (x), .int (nI (s)), .int (nI (l'.length))] h (fun r' h' => r' = none ∧ Pob h' a b l' ∧ Fr (Wab a b) h h') := by
  show Ex S pa_takeRows 0 [some (.ref (a)), some (.ref (x)), some (.int (nI (s))), some (.int (nI (l'.length)))] [] h _
  refine Ex_iload_n d_pa_takeRows_0 rfl ?_
  refine Ex_if_ltN (l'.length) 38 d_pa_takeRows_1 rfl rfl (by omega) (fun hc1 => ?_) (fun hc1 => ?_)
  · exfalso; omega
  · refine Ex_iload_n d_pa_takeRows_4 rfl ?_
    refine Ex_bipush d_pa_takeRows_5 bp_60 ?_
    refine Ex_icmp_gtN (l'.length) (60) 38 d_pa_takeRows_7 rfl rfl rfl (by omega) (by omega) (fun hc7 => ?_) (fun hc7 => ?_)
    · exfalso; omega
    · refine Ex_iload_n d_pa_takeRows_10 rfl ?_
      refine Ex_if_ltN (s) 38 d_pa_takeRows_11 rfl rfl (by omega) (fun hc11 => ?_) (fun hc11 => ?_)
      · exfalso; omega
      · refine Ex_iload_n d_pa_takeRows_14 rfl ?_
        refine Ex_aload_n d_pa_takeRows_15 rfl ?_
        refine Ex_arraylength d_pa_takeRows_16 hx (by decide) ?_
        refine Ex_iload_n d_pa_takeRows_17 rfl ?_
        refine Ex_isubN (m) (l'.length) d_pa_takeRows_18 rfl rfl (by omega) ?_
        refine Ex_icmp_gtN (s) (m - l'.length) 38 d_pa_takeRows_19 rfl rfl rfl (by omega) (by omega) (fun hc19 => ?_) (fun hc19 => ?_)
        · exfalso; omega
        · refine Ex_aload_n d_pa_takeRows_22 rfl ?_
          refine Ex_iload_n d_pa_takeRows_23 rfl ?_
          refine Ex_aload_n d_pa_takeRows_24 rfl ?_
          refine Ex_getR d_pa_takeRows_25 pf_pa_11 rfl hB.1.1 (congrArg va_rf hB.1.2.2.1) ?_
          refine Ex_iconst d_pa_takeRows_28 ic_0 ?_
          refine Ex_iload_n d_pa_takeRows_29 rfl ?_
          refine Ex_acN (s) (0) (l'.length) d_pa_takeRows_30 pm_pa_44 rfl ⟨Nat.le_of_ble_eq_true rfl, Nat.le_of_ble_eq_true rfl⟩ hx hB.1.2.2.2 rfl rfl rfl (by omega) (by omega) (by omega) (by omega) ?_
          refine Ex_aload_n d_pa_takeRows_33 rfl ?_
          refine Ex_iload_n d_pa_takeRows_34 rfl ?_
          refine Ex_putI d_pa_takeRows_35 pf_pa_19 (Or.inl rfl) hB.1.1 (Or.inl rfl) ?_
          refine Ex_return d_pa_takeRows_38 rfl ?_
          have hab := Pob_ne hB
          refine ⟨rfl, ⟨⟨hB.1.1, hB.1.2.1, hB.1.2.2.1, hB.1.2.2.2⟩, ?_, fun k hk => ?_⟩, Fr.sI (Fr.sA Fr.rf (fun k hk => absurd (Or.inl rfl) hk)) (Or.inr ⟨rfl, rfl⟩)⟩
          · rw [mI_wI, if_pos rfl, if_pos rfl]
          · rw [mI_wI, if_neg (Ne.symm hab), mI_wA, if_pos rfl]
            unfold va_cpy
            rw [if_pos (by omega), Nat.sub_zero]
            exact hg k hk
