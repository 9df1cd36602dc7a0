/-! The class: undo, setCell, put, shade. -/
theorem to_undo_s {S : mj_S} {h : mj_H} (hs : HT h) {P : SP} {Y : OW} (hP : PC P Y h) {n : Nat} (hQ : PO n P) : Cl S to_undo [.ref 0] h (fun r h' => r = some (.int (J (undoS P))) ∧ PC (undoP P) Y h' ∧ Fr (WPC Y) h h') := by
  cases hh : pHi P with
  | nil =>
    have hl0 : mI h 25 0 = nI 0 := by have := hP.2.2.1; rw [hh] at this; exact this
    show Ex S to_undo 0 [some (.ref 0), none] [] h _
    refine Ex_aload_n d_to_undo_0 rfl ?_
    refine Ex_getR d_to_undo_1 pf_to_55 rfl (t_0 hs) (r_0_4 hs) ?_
    refine Ex_getIE d_to_undo_4 pf_to_408 rfl (t_25 hs) hl0 ?_
    refine Ex_if_neN (0) 12 d_to_undo_7 rfl rfl (by omega) (fun hc7 => ?_) (fun hc7 => ?_)
    · exfalso; omega
    · refine Ex_iconst d_to_undo_10 ic_m1 ?_
      refine Ex_ireturn d_to_undo_11 rfl ?_
      exact ⟨by unfold undoS; rw [hh]; rfl, by unfold undoP; rw [hh]; exact hP, Fr.rf⟩
  | cons q l =>
    have hq := hQ.2.2.2.2.2 q (by rw [hh]; exact List.mem_cons_self ..)
    have hh40 := hQ.2.2.2.2.1
    have hl0 := hP.2.2.1
    rw [hh] at hl0 hh40
    simp only [List.length_cons] at hl0 hh40
    obtain ⟨x, y, hx⟩ := hP.2.1.2 q.1 hq.1
    have hB := hx.2.2
    have hx74 := hx.1.1
    have hy74 := hx.1.2.1
    show Ex S to_undo 0 [some (.ref 0), none] [] h _
    refine Ex_aload_n d_to_undo_0 rfl ?_
    refine Ex_getR d_to_undo_1 pf_to_55 rfl (t_0 hs) (r_0_4 hs) ?_
    refine Ex_getIE d_to_undo_4 pf_to_408 rfl (t_25 hs) hl0 ?_
    refine Ex_if_neN (l.length + 1) 12 d_to_undo_7 rfl rfl (by omega) (fun hc7 => ?_) (fun hc7 => ?_)
    · refine Ex_aload_n d_to_undo_12 rfl ?_
      refine Ex_aload_n d_to_undo_13 rfl ?_
      refine Ex_getR d_to_undo_14 pf_to_55 rfl (t_0 hs) (r_0_4 hs) ?_
      refine Ex_pV0 d_to_undo_17 pk_to_undo_411 (t_25 hs) (hi_latestPattern_s hs hP.2.2 hQ hh) ?_
      refine Ex_pV1 d_to_undo_20 pk_to_undo_139 (t_0 hs) (to_patternOf_s hs hP hQ hq.1 hx) ?_
      refine Ex_astore_n [some (.ref 0), some (.ref (x))] d_to_undo_23 (Nat.le_of_ble_eq_true rfl) rfl ?_
      refine Ex_aload_n d_to_undo_24 rfl ?_
      refine Ex_ifnull d_to_undo_25 ?_
      refine Ex_aload_n d_to_undo_28 rfl ?_
      refine Ex_getR d_to_undo_29 pf_to_55 rfl (t_0 hs) (r_0_4 hs) ?_
      refine Ex_aload_n d_to_undo_32 rfl ?_
      refine Ex_cV1 d_to_undo_33 pk_to_undo_414 (t_25 hs) (hi_giveBack_s hs hP.2.2 hQ hh hB hx74 hy74) ?_
      rintro rv h9 ⟨rfl, hH9, hB9, f9⟩
      have hs9 : HT h9 := f9.ht hs (fun q hq z => z.elim (WHc_st q hq) (Wab_st hx74 hy74 q hq))
      show Ex S to_undo 36 [some (.ref 0), some (.ref (x))] [] h9 _
      refine Ex_aload_n d_to_undo_36 rfl ?_
      refine Ex_getR d_to_undo_37 pf_to_55 rfl (t_0 hs9) (r_0_4 hs9) ?_
      refine Ex_getIE d_to_undo_40 pf_to_408 rfl (t_25 hs9) hH9.1 ?_
      refine Ex_ireturn d_to_undo_43 rfl ?_
      have hU : undoP P = uHi (uPat P q.1 q.2) l := by unfold undoP; rw [hh]
      refine ⟨?_, ?_, f9.mono (fun a k z => z.elim (WHc_C a k) (Wab_C hx a k))⟩
      · unfold undoS
        rw [hh, nIJ]
        simp only [List.length_cons]
        exact congrArg (fun z => some (Value.int (J z))) (show ((l.length : Nat) : Int) = ((l.length + 1 : Nat) : Int) - 1 by omega)
      · rw [hU]
        refine ⟨RwC_fr hs f9 (fun a k z w => w.elim (fun w => ?_) (fun w => Wab_R hx a k z w)) OwE.rf hP.1, PaC_upd hs hP.2.1 hx f9 (fun u k w => ?_) OwE.rf hB9, hH9⟩
        · unfold WRc at z
          unfold WHc at w
          omega
        · obtain ⟨⟨z1, z2, z3, z4⟩, -⟩ := hx
          rcases w with w | rfl | ⟨rfl, -⟩
          · unfold WHc at w
            exact ⟨by omega, by omega, by omega⟩
          · exact ⟨by omega, by omega, fun _ _ => by rw [z4]⟩
          · exact ⟨by omega, by omega, fun _ _ => by rw [z3]⟩
    · exfalso; omega
def okSet (P : SP) (p i j : Int) : Prop := 0 ≤ p ∧ p < pNp P ∧ (cAt P p.toNat i j).isSome = true ∧ pMd P < 6000
theorem eA_m2 {c : Option Tl} (h : okA 40 c) : eA c = -2 ↔ c = none := eA_inj (b := none) h trivial
theorem okA_mono {n m : Nat} {c : Option Tl} (h : okA n c) (hm : n ≤ m) : okA m c := by
  cases c with
  | none => exact h
  | some q => exact okT_mono h hm
theorem setP_u (P : SP) (p i k : Nat) (c : Tl) : setP P p i k c = uCell (ownP (keepP P p) p i) (pMd P) k c := by
  have e1 : pC (ownP (keepP P p) p i) (pMd P) = pC P ((pPat P p).getD i 0) := own_Cn (P := keepP P p)
  have e2 : ∀ f, va_up (ownP (keepP P p) p i).2.2.2.1 (pMd P) f = va_up (pC P) (pMd P) f := fun f => va_uu _ _ _ _
  unfold uCell
  rw [e1, e2]
  rfl
theorem PC_cell {P : SP} {Y : OW} {h h' : mj_H} (hs : HT h) (hP : PC P Y h) {q x k0 : Nat} {k : Nat} {c : Tl} (hx : 74 ≤ x ∧ Y x = (0, q)) (f : Fr (fun a k => a = x ∧ k = k0) h h') (hR : RwC (uCell P q k c) Y h') : PC (uCell P q k c) Y h' :=
  ⟨hR, PaC_fr (P := uCell P q k c) hs f (by rintro a j z ⟨rfl, -⟩; unfold WPc at z; rw [hx.2] at z; omega) OwE.rf hP.2.1, HiC_fr (P := uCell P q k c) hs f (by rintro a j z ⟨rfl, -⟩; unfold WHc at z; omega) hP.2.2⟩
theorem to_setCell_s {S : mj_S} {h : mj_H} (hs : HT h) {P : SP} {Y : OW} (hP : PC P Y h) {n : Nat} (hn : n ≤ 40) (hQ : PO n P) {p i j : Int} (hp : -2147483648 ≤ p ∧ p < 2147483648) (hi : -2147483648 ≤ i ∧ i < 2147483648) (hj : -2147483648 ≤ j ∧ j < 2147483648) {c : Tl} : Cl S to_setCell [.ref 0, .int (J (p)), .int (J (i)), .int (J (j)), .int (eC c)] h (Ans (okSet P p i j) (PC P Y) (NC (setA P p i j c) Y 1 60 h) (WPC Y) h) := by
  show Ex S to_setCell 0 [some (.ref 0), some (.int (J (p))), some (.int (J (i))), some (.int (J (j))), some (.int (eC c)), none] [] h _
  by_cases hpp : 0 ≤ p ∧ p < pNp P
  · obtain ⟨a, rfl⟩ : ∃ a : Nat, p = (a : Int) := ⟨p.toNat, by omega⟩
    simp only [← nIJ]
    have hnp := hQ.2.2.1
    have hmd : pMd P ≤ 6000 := hQ.1
    obtain ⟨x, y, hx⟩ := hP.2.1.2 a (by omega)
    have hB := hx.2.2
    have hok := hQ.2.2.2.1 a (by omega)
    have hlen := hok.1
    have hx74 := hx.1.1
    have hy74 := hx.1.2.1
    refine Ex_aload_n d_to_setCell_0 rfl ?_
    refine Ex_iload_n d_to_setCell_1 rfl ?_
    refine Ex_pV1 d_to_setCell_2 pk_to_setCell_139 (t_0 hs) (to_patternOf_s hs hP hQ (show a < pNp P by omega) hx) ?_
    refine Ex_astore [some (.ref 0), some (.int (nI (a))), some (.int (J (i))), some (.int (J (j))), some (.int (eC c)), some (.ref (x))] d_to_setCell_5 (Nat.le_of_ble_eq_true rfl) rfl ?_
    refine Ex_aload d_to_setCell_7 rfl ?_
    refine Ex_ifnull d_to_setCell_9 ?_
    refine Ex_aload d_to_setCell_12 rfl ?_
    refine Ex_iload_n d_to_setCell_14 rfl ?_
    refine Ex_i2lZ (i) d_to_setCell_15 rfl (by omega) ?_
    refine Ex_iload_n d_to_setCell_16 rfl ?_
    refine Ex_i2lZ (j) d_to_setCell_17 rfl (by omega) ?_
    refine Ex_pV2 d_to_setCell_18 pk_to_setCell_186 hB.1.1 (pa_cellAt_s hs hP.1 hQ hB hok (by omega) (by omega)) ?_
    refine Ex_bipush d_to_setCell_21 bp_m2 ?_
    refine Ex_icmp_eq 37 d_to_setCell_23 rfl (fun hc23 => ?_) (fun hc23 => ?_)
    · have hc0 : cAt P a i j = none := (eA_m2 (okA_mono (lAt_ok hQ hok) hn)).mp hc23
      refine Ex_iconst d_to_setCell_37 ic_0 ?_
      refine Ex_zreturn d_to_setCell_38 rfl (by decide) ?_
      exact Or.inl ⟨fun z => by have z1 := z.2.2.1; have z2 := z.2.2.2; have z3 := z.1; have z4 := z.2.1; (try simp only [Int.toNat_natCast] at z1); first | omega | (rw [hc0] at z1; cases z1), rfl, rfl⟩
    · have hc0 : (cAt P a i j).isSome = true := by
        cases z : cAt P a i j with
        | some _ => rfl
        | none => exact absurd (show eA (cAt P a i j) = -2 by rw [z]; rfl) hc23
      refine Ex_aload_n d_to_setCell_26 rfl ?_
      refine Ex_getR d_to_setCell_27 pf_to_42 rfl (t_0 hs) (r_0_1 hs) ?_
      refine Ex_pV0 d_to_setCell_30 pk_to_setCell_149 (t_21 hs) (rs_left_s hs hP.1 hQ) ?_
      refine Ex_iconst d_to_setCell_33 ic_1 ?_
      refine Ex_icmp_geN (6000 - pMd P) (1) 39 d_to_setCell_34 rfl rfl rfl (by omega) (by omega) (fun hc34 => ?_) (fun hc34 => ?_)
      · obtain ⟨c0, hc1⟩ := Option.isSome_iff_exists.mp hc0
        obtain ⟨b1, b2, b3, b4, -⟩ := cAt_some hc1
        obtain ⟨b, rfl⟩ : ∃ b : Nat, i = (b : Int) := ⟨i.toNat, by omega⟩
        simp only [← nIJ]
        rw [Int.toNat_natCast] at b3 b4
        refine Ex_aload_n d_to_setCell_39 rfl ?_
        refine Ex_getR d_to_setCell_40 pf_to_55 rfl (t_0 hs) (r_0_4 hs) ?_
        refine Ex_iload_n d_to_setCell_43 rfl ?_
        refine Ex_aload d_to_setCell_44 rfl ?_
        refine Ex_cV2 d_to_setCell_46 pk_to_setCell_153 (t_25 hs) (hi_remember_s (p := a) hs hP.2.2 hQ hB hlen hx74 hy74) ?_
        rintro rv h1 ⟨rfl, hH1, f1⟩
        have hs1 : HT h1 := f1.ht hs WHc_st
        have hP1 : PC (keepP P a) Y h1 := PC_hi hs hP f1 hH1
        have hx1 : PaC1 (keepP P a) Y h1 a x y := PaC1_hi hs f1 hx
        have hB1 : Pob h1 x y (pPat P a) := hx1.2.2
        have hQ1 := PO_keep hQ (show a < pNp P by omega)
        show Ex S to_setCell 49 [some (.ref 0), some (.int (nI (a))), some (.int (nI (b))), some (.int (J (j))), some (.int (eC c)), some (.ref (x))] [] h1 _
        refine Ex_aload_n d_to_setCell_49 rfl ?_
        refine Ex_getR d_to_setCell_50 pf_to_42 rfl (t_0 hs1) (r_0_1 hs1) ?_
        refine Ex_aload d_to_setCell_53 rfl ?_
        refine Ex_iload_n d_to_setCell_55 rfl ?_
        refine Ex_cV1 d_to_setCell_56 pk_to_setCell_193 hB1.1.1 (pa_renewRow_s (P := keepP P a) (l := pPat P a) hs1 hP1.1 hQ1 hB1 hok (show pMd P < 6000 by omega) (i := b) (by omega) hx74 ⟨hy74, by rw [hx.1.2.2.2]⟩) ?_
        rintro rv h2 ⟨rfl, ⟨Y2, oY, hR2⟩, hB2, f2, g2⟩
        have hs2 : HT h2 := f2.ht hs1 (fun q hq z => z.elim (WRn_st q hq) (fun z => by have := st_lt q hq; omega))
        have hP2 : PC (ownP (keepP P a) a b) Y2 h2 := by
          refine ⟨hR2, PaC_upd (P := newR (keepP P a) _ _ _) (Y := Y) hs1 hP1.2.1 hx1 f2 (fun u k w => ?_) oY hB2, HiC_fr (P := ownP (keepP P a) a b) hs1 f2 (fun u k z w => ?_) hP1.2.2⟩
          · rcases w with w | rfl
            · unfold WRn WRe Wal at w
              exact ⟨by omega, by omega, by omega⟩
            · exact ⟨by omega, by omega, fun _ _ => by rw [hx.1.2.2.2]⟩
          · unfold WHc at z
            unfold WRn WRe Wal at w
            omega
        obtain ⟨xr, hr1⟩ := hP2.1.2 (pMd P) (show pMd P < pMd P + 1 by omega)
        have hQ2 := PO_own hQ1 (show a < pNp P by omega) (i := b) (show b < (pPat P a).length by omega) (show pMd P < 6000 by omega)
        have eO : pO (ownP (keepP P a) a b) (pMd P) = pO P ((pPat P a).getD b 0) := own_O (P := keepP P a)
        have eL : pL (ownP (keepP P a) a b) (pMd P) = pL P ((pPat P a).getD b 0) := own_Ln (P := keepP P a)
        show Ex S to_setCell 59 [some (.ref 0), some (.int (nI (a))), some (.int (nI (b))), some (.int (J (j))), some (.int (eC c)), some (.ref (x))] [.int (nI (pMd P)), .ref 21] h2 _
        refine Ex_iload_n d_to_setCell_59 rfl ?_
        refine Ex_iload d_to_setCell_60 rfl ?_
        refine Ex_cV3 d_to_setCell_62 pk_to_setCell_197 (t_21 hs2) (rs_setCell_s (c := c) hs2 hP2.1 hQ2 (show pMd P < pMd P + 1 by omega) hr1 (by rw [eO, eL]; omega)) ?_
        rintro rv h3 ⟨rfl, hR3, f3⟩
        show Ex S to_setCell 65 [some (.ref 0), some (.int (nI (a))), some (.int (nI (b))), some (.int (J (j))), some (.int (eC c)), some (.ref (x))] [] h3 _
        refine Ex_iconst d_to_setCell_65 ic_1 ?_
        refine Ex_zreturn d_to_setCell_66 rfl (by decide) ?_
        refine Or.inr ⟨⟨by omega, by omega, by rw [Int.toNat_natCast]; exact hc0, by omega⟩, rfl, ⟨⟨Y2, (fun k hk => oY k (by have := f1.le; omega)), ?_⟩, ((Gr.of f1 WHc_0).tr g2).tr (Gr.of f3 (by have := hr1.1.1; omega))⟩, ?_⟩
        · unfold setA
          simp only [Int.toNat_natCast]
          rw [setP_u, ← eO]
          exact PC_cell hs2 hP2 hr1.1 f3 hR3
        · refine ((f1.mono WHc_C).tr (f2.mono (fun u k w => w.elim (WRn_C u k) (fun w => Wab_C hx u k (Or.inl w))))).trN f3 (by have := HT_n hs; omega) (fun u k hu w => ?_)
          obtain ⟨rfl, -⟩ := w
          refine Or.inl (Or.inr (Or.inr (Or.inr ⟨hr1.1.1, ?_⟩)))
          rw [← oY u (by have := f1.le; omega), hr1.1.2]
      · refine Ex_iconst d_to_setCell_37 ic_0 ?_
        refine Ex_zreturn d_to_setCell_38 rfl (by decide) ?_
        exact Or.inl ⟨fun z => by have z1 := z.2.2.1; have z2 := z.2.2.2; have z3 := z.1; have z4 := z.2.1; (try simp only [Int.toNat_natCast] at z1); first | omega | (rw [hc0] at z1; cases z1), rfl, rfl⟩
  · refine Ex_aload_n d_to_setCell_0 rfl ?_
    refine Ex_iload_n d_to_setCell_1 rfl ?_
    refine Ex_pV1 d_to_setCell_2 pk_to_setCell_139 (t_0 hs) (to_patternOf_n hs hP hQ hp hpp) ?_
    refine Ex_astore0 [some (.ref 0), some (.int (J (p))), some (.int (J (i))), some (.int (J (j))), some (.int (eC c)), some (.null)] d_to_setCell_5 (Nat.le_of_ble_eq_true rfl) rfl ?_
    refine Ex_aload0 d_to_setCell_7 rfl ?_
    refine Ex_ifnull0 37 d_to_setCell_9 rfl ?_
    refine Ex_iconst d_to_setCell_37 ic_0 ?_
    refine Ex_zreturn d_to_setCell_38 rfl (by decide) ?_
    exact Or.inl ⟨fun z => hpp ⟨z.1, z.2.1⟩, rfl, rfl⟩
