/-! The class: put, shade, at, shares, row. -/
theorem to_patternOf_z {S : mj_S} {h : mj_H} (hs : HT h) {P : SP} {Y : OW} (hP : PC P Y h) {n : Nat} (hQ : PO n P) {p : Int} {x y : Nat} (hp : 0 ≤ p ∧ p < pNp P) (h1 : PaC1 P Y h p.toNat x y) : Cl S to_patternOf [.ref 0, .int (J p)] h (Pu (.ref x) h) := by
  rw [J_pos hp.1]
  exact to_patternOf_s hs hP hQ (by omega) h1
theorem Ans_B {c : Prop} {R R1 : mj_H → Prop} {W : Nat → Nat → Prop} {h : mj_H} {r : Option Value} {h' : mj_H} (a : Ans c R R1 W h r h') : ∃ v : Bool, r = some (.int (bI v)) := by
  rcases a with ⟨a1, a2, a3⟩ | ⟨a1, a2, a3, a4⟩
  · exact ⟨false, a2⟩
  · exact ⟨true, a2⟩
theorem to_put_s {S : mj_S} {h : mj_H} (hs : HT h) {K : SK} (hK : KC K h) (hO : KO K) {P : SP} {Y : OW} (hP : PC P Y h) (hQ : PO K.1 P) {p i j k m : Int} (hp : -2147483648 ≤ p ∧ p < 2147483648) (hi : -2147483648 ≤ i ∧ i < 2147483648) (hj : -2147483648 ≤ j ∧ j < 2147483648) (hk : -2147483648 ≤ k ∧ k < 2147483648) (hm : -2147483648 ≤ m ∧ m < 2147483648) : Cl S to_put [.ref 0, .int (J (p)), .int (J (i)), .int (J (j)), .int (J (k)), .int (J (m))] h (Ans (okPut K P p i j k m) (PC P Y) (NC (setA P p i j (putC K k m)) Y 1 60 h) (WPC Y) h) := by
  show Ex S to_put 0 [some (.ref 0), some (.int (J (p))), some (.int (J (i))), some (.int (J (j))), some (.int (J (k))), some (.int (J (m)))] [] h _
  refine Ex_iload d_to_put_0 rfl ?_
  refine Ex_iconst d_to_put_2 ic_m1 ?_
  refine Ex_icmp_neZ (k) ((-1)) 15 d_to_put_3 rfl rfl (by decide) (by omega) (by omega) (fun hc3 => ?_) (fun hc3 => ?_)
  · refine Ex_aload_n d_to_put_15 rfl ?_
    refine Ex_iload d_to_put_16 rfl ?_
    refine Ex_iload d_to_put_18 rfl ?_
    refine Ex_pV2 d_to_put_20 pk_to_put_180 (t_0 hs) (to_isKindInMove_s hs hK hO hk hm) ?_
    refine Ex_if_eqB (decide (0 ≤ k ∧ k < K.1 ∧ 0 ≤ m ∧ m < 8)) 51 d_to_put_23 rfl rfl (fun hc23 => ?_) (fun hc23 => ?_)
    · rw [decide_eq_false_iff_not] at hc23
      refine Ex_iconst d_to_put_51 ic_0 ?_
      refine Ex_zreturn d_to_put_52 rfl (by decide) ?_
      first
        | (rw [hc44] at hA; exact Ans_map ⟨fun z => ⟨z.1, z.2.1, z.2.2.1, by omega, z.2.2.2⟩, fun z => ⟨z.1, z.2.1, z.2.2.1, z.2.2.2.2⟩⟩ hA (fun x hx => by unfold putC; rw [if_neg (by omega)]; exact hx))
        | exact Or.inl ⟨fun z => by have := z.2.2.2.1; omega, rfl, rfl⟩
    · rw [decide_eq_true_eq] at hc23
      refine Ex_aload_n d_to_put_26 rfl ?_
      refine Ex_iload_n d_to_put_27 rfl ?_
      refine Ex_iload_n d_to_put_28 rfl ?_
      refine Ex_iload_n d_to_put_29 rfl ?_
      refine Ex_aload_n d_to_put_30 rfl ?_
      refine Ex_getR d_to_put_31 pf_to_20 rfl (t_0 hs) (r_0_0 hs) ?_
      refine Ex_iload d_to_put_34 rfl ?_
      refine Ex_iload d_to_put_36 rfl ?_
      refine Ex_pV2 d_to_put_38 pk_to_put_183 (t_1 hs) (show Cl S ki_cellOf [.ref 1, .int (J k), .int (J m)] h _ by rw [J_pos (show 0 ≤ k by omega), J_pos (show 0 ≤ m by omega)]; exact ki_cellOf_s hs hK hO (by omega) (by omega)) ?_
      refine Ex_cV4 d_to_put_41 pk_to_put_176 (t_0 hs) (to_setCell_s (c := (some (k.toNat, kLie K k.toNat m.toNat, 0))) hs hP hO.1 hQ hp hi hj) ?_
      intro r h1 hA
      obtain ⟨v, rfl⟩ := Ans_B hA
      show Ex S to_put 44 [some (.ref 0), some (.int (J (p))), some (.int (J (i))), some (.int (J (j))), some (.int (J (k))), some (.int (J (m)))] [.int (bI (v))] h1 _
      refine Ex_if_eqB (v) 51 d_to_put_44 rfl rfl (fun hc44 => ?_) (fun hc44 => ?_)
      · refine Ex_iconst d_to_put_51 ic_0 ?_
        refine Ex_zreturn d_to_put_52 rfl (by decide) ?_
        first
          | (rw [hc44] at hA; exact Ans_map ⟨fun z => ⟨z.1, z.2.1, z.2.2.1, by omega, z.2.2.2⟩, fun z => ⟨z.1, z.2.1, z.2.2.1, z.2.2.2.2⟩⟩ hA (fun x hx => by unfold putC; rw [if_neg (by omega)]; exact hx))
          | exact Or.inl ⟨fun z => by have := z.2.2.2.1; omega, rfl, rfl⟩
      · refine Ex_iconst d_to_put_47 ic_1 ?_
        refine Ex_goto 52 d_to_put_48 rfl ?_
        refine Ex_zreturn d_to_put_52 rfl (by decide) ?_
        rw [hc44] at hA
        refine Ans_map ?_ hA (fun x hx => ?_)
        · unfold okPut okSet
          exact ⟨fun z => ⟨z.1, z.2.1, z.2.2.1, by omega, z.2.2.2⟩, fun z => ⟨z.1, z.2.1, z.2.2.1, z.2.2.2.2⟩⟩
        · unfold putC
          rw [if_neg (by omega)]
          exact hx
  · refine Ex_aload_n d_to_put_6 rfl ?_
    refine Ex_iload_n d_to_put_7 rfl ?_
    refine Ex_iload_n d_to_put_8 rfl ?_
    refine Ex_iload_n d_to_put_9 rfl ?_
    refine Ex_iconst d_to_put_10 ic_m1 ?_
    refine Ex_cV4 d_to_put_11 pk_to_put_176 (t_0 hs) (to_setCell_s (c := none) hs hP hO.1 hQ hp hi hj) ?_
    intro r h1 hA
    obtain ⟨v, rfl⟩ := Ans_B hA
    show Ex S to_put 14 [some (.ref 0), some (.int (J (p))), some (.int (J (i))), some (.int (J (j))), some (.int (J (k))), some (.int (J (m)))] [.int (bI (v))] h1 _
    refine Ex_zreturn d_to_put_14 rfl (bI_01 _) ?_
    refine Ans_map ?_ hA (fun x hx => ?_)
    · unfold okPut okSet
      exact ⟨fun z => ⟨z.1, z.2.1, z.2.2.1, by omega, z.2.2.2⟩, fun z => ⟨z.1, z.2.1, z.2.2.1, z.2.2.2.2⟩⟩
    · unfold putC
      rw [if_pos (by omega)]
      exact hx
theorem to_shade_s {S : mj_S} {h : mj_H} (hs : HT h) {K : SK} (hK : KC K h) (hO : KO K) {P : SP} {Y : OW} (hP : PC P Y h) (hQ : PO K.1 P) {p i j : Int} {s : Int32} (hp : -2147483648 ≤ p ∧ p < 2147483648) (hi : -2147483648 ≤ i ∧ i < 2147483648) (hj : -2147483648 ≤ j ∧ j < 2147483648) : Cl S to_shade [.ref 0, .int (J (p)), .int (J (i)), .int (J (j)), .int (s)] h (Ans (okSh P p i j) (PC P Y) (NC (setA P p i j (shC P p i j s)) Y 1 60 h) (WPC Y) h) := by
  show Ex S to_shade 0 [some (.ref 0), some (.int (J (p))), some (.int (J (i))), some (.int (J (j))), some (.int (s)), none, none] [] h _
  have hnp := hQ.2.2.1
  have hmd : pMd P ≤ 6000 := hQ.1
  by_cases hpp : 0 ≤ p ∧ p < pNp P
  · obtain ⟨x, y, hx⟩ := hP.2.1.2 p.toNat (by omega)
    have hB := hx.2.2
    have hok := hQ.2.2.2.1 p.toNat (by omega)
    have hlen := hok.1
    have hx74 := hx.1.1
    have hy74 := hx.1.2.1
    refine Ex_aload_n d_to_shade_0 rfl ?_
    refine Ex_iload_n d_to_shade_1 rfl ?_
    refine Ex_pV1 d_to_shade_2 pk_to_shade_139 (t_0 hs) (to_patternOf_z hs hP hQ hpp hx) ?_
    refine Ex_astore [some (.ref 0), some (.int (J (p))), some (.int (J (i))), some (.int (J (j))), some (.int (s)), some (.ref (x)), none] d_to_shade_5 (Nat.le_of_ble_eq_true rfl) rfl ?_
    refine Ex_aload d_to_shade_7 rfl ?_
    refine Ex_ifnonnull 17 d_to_shade_9 rfl ?_
    refine Ex_aload d_to_shade_17 rfl ?_
    refine Ex_iload_n d_to_shade_19 rfl ?_
    refine Ex_i2lZ (i) d_to_shade_20 rfl (by omega) ?_
    refine Ex_iload_n d_to_shade_21 rfl ?_
    refine Ex_i2lZ (j) d_to_shade_22 rfl (by omega) ?_
    refine Ex_pV2 d_to_shade_23 pk_to_shade_186 hB.1.1 (pa_cellAt_s hs hP.1 hQ hB hok (by omega) (by omega)) ?_
    refine Ex_istore [some (.ref 0), some (.int (J (p))), some (.int (J (i))), some (.int (J (j))), some (.int (s)), some (.ref (x)), some (.int (eA (lAt P (pPat P p.toNat) i j)))] d_to_shade_26 (Nat.le_of_ble_eq_true rfl) rfl ?_
    rcases eA_cases (lAt_ok hQ hok (i := i) (j := j)) with ⟨hneg, hcc⟩ | ⟨k, m, t, hcc, hk1, hm8, ht6⟩
    · have hcc : cAt P p.toNat i j = none ∨ cAt P p.toNat i j = some none := hcc
      refine Ex_iload d_to_shade_28 rfl ?_
      refine Ex_if_lt 54 d_to_shade_30 rfl (fun hc30 => ?_) (fun hc30 => ?_)
      · refine Ex_iconst d_to_shade_54 ic_0 ?_
        refine Ex_zreturn d_to_shade_55 rfl (by decide) ?_
        refine Or.inl ⟨?_, rfl, rfl⟩
        rintro ⟨-, -, ⟨q, z⟩, -⟩
        rcases hcc with hcc | hcc <;> rw [hcc] at z <;> cases z
      · exact absurd hneg hc30
    · have hk40 : k < 40 := Nat.lt_of_lt_of_le hk1 hO.1
      rw [show eA (lAt P (pPat P p.toNat) i j) = nI (k * 524288 + (m * 65536 + t)) by rw [hcc]; rfl]
      have hcc : cAt P p.toNat i j = some (some (k, m, t)) := hcc
      refine Ex_iload d_to_shade_28 rfl ?_
      refine Ex_if_ltN (k * 524288 + (m * 65536 + t)) 54 d_to_shade_30 rfl rfl (by omega) (fun hc30 => ?_) (fun hc30 => ?_)
      · exfalso; omega
      · refine Ex_aload_n d_to_shade_33 rfl ?_
        refine Ex_iload_n d_to_shade_34 rfl ?_
        refine Ex_iload_n d_to_shade_35 rfl ?_
        refine Ex_iload_n d_to_shade_36 rfl ?_
        refine Ex_iload d_to_shade_37 rfl ?_
        refine Ex_iload d_to_shade_39 rfl ?_
        refine Ex_pS2 d_to_shade_41 pk_to_shade_190 (ce_shaded_t hk40 hm8 ht6) ?_
        refine Ex_cV4 d_to_shade_44 pk_to_shade_176 (t_0 hs) (to_setCell_s (c := some (k, m, lo16 s)) hs hP hO.1 hQ hp hi hj) ?_
        intro r h1 hA
        obtain ⟨v, rfl⟩ := Ans_B hA
        show Ex S to_shade 47 [some (.ref 0), some (.int (J (p))), some (.int (J (i))), some (.int (J (j))), some (.int (s)), some (.ref (x)), some (.int (nI (k * 524288 + (m * 65536 + t))))] [.int (bI (v))] h1 _
        refine Ex_if_eqB (v) 54 d_to_shade_47 rfl rfl (fun hc47 => ?_) (fun hc47 => ?_)
        · refine Ex_iconst d_to_shade_54 ic_0 ?_
          refine Ex_zreturn d_to_shade_55 rfl (by decide) ?_
          rw [hc47] at hA
          refine Ans_map ?_ hA (fun x hx => ?_)
          · unfold okSh okSet
            rw [hcc]
            exact ⟨fun z => ⟨z.1, z.2.1, ⟨_, rfl⟩, z.2.2.2⟩, fun z => ⟨z.1, z.2.1, rfl, z.2.2.2⟩⟩
          · unfold shC
            rw [hcc]
            exact hx
        · refine Ex_iconst d_to_shade_50 ic_1 ?_
          refine Ex_goto 55 d_to_shade_51 rfl ?_
          refine Ex_zreturn d_to_shade_55 rfl (by decide) ?_
          rw [hc47] at hA
          refine Ans_map ?_ hA (fun x hx => ?_)
          · unfold okSh okSet
            rw [hcc]
            exact ⟨fun z => ⟨z.1, z.2.1, ⟨_, rfl⟩, z.2.2.2⟩, fun z => ⟨z.1, z.2.1, rfl, z.2.2.2⟩⟩
          · unfold shC
            rw [hcc]
            exact hx
  · refine Ex_aload_n d_to_shade_0 rfl ?_
    refine Ex_iload_n d_to_shade_1 rfl ?_
    refine Ex_pV1 d_to_shade_2 pk_to_shade_139 (t_0 hs) (to_patternOf_n hs hP hQ hp hpp) ?_
    refine Ex_astore0 [some (.ref 0), some (.int (J (p))), some (.int (J (i))), some (.int (J (j))), some (.int (s)), some (.null), none] d_to_shade_5 (Nat.le_of_ble_eq_true rfl) rfl ?_
    refine Ex_aload0 d_to_shade_7 rfl ?_
    refine Ex_ifnonnull0 d_to_shade_9 ?_
    refine Ex_bipush d_to_shade_12 bp_m2 ?_
    refine Ex_goto 26 d_to_shade_14 rfl ?_
    refine Ex_istore [some (.ref 0), some (.int (J (p))), some (.int (J (i))), some (.int (J (j))), some (.int (s)), some (.null), some (.int (-2))] d_to_shade_26 (Nat.le_of_ble_eq_true rfl) rfl ?_
    refine Ex_iload d_to_shade_28 rfl ?_
    refine Ex_if_ltZ ((-2)) 54 d_to_shade_30 rfl (by decide) (by omega) (fun hc30 => ?_) (fun hc30 => ?_)
    · refine Ex_iconst d_to_shade_54 ic_0 ?_
      refine Ex_zreturn d_to_shade_55 rfl (by decide) ?_
      exact Or.inl ⟨fun z => hpp ⟨z.1, z.2.1⟩, rfl, rfl⟩
    · exact absurd hc30 (by decide)
theorem to_at_s {S : mj_S} {h : mj_H} (hs : HT h) {K : SK} (hK : KC K h) (hO : KO K) {P : SP} {Y : OW} (hP : PC P Y h) (hQ : PO K.1 P) {p i j w : Int} (hp : -2147483648 ≤ p ∧ p < 2147483648) (hi : -2147483648 ≤ i ∧ i < 2147483648) (hj : -2147483648 ≤ j ∧ j < 2147483648) (hw : -2147483648 ≤ w ∧ w < 2147483648) : Cl S to_at [.ref 0, .int (J (p)), .int (J (i)), .int (J (j)), .int (J (w))] h (Pu (.int (J (atS P p i j w))) h) := by
  show Ex S to_at 0 [some (.ref 0), some (.int (J (p))), some (.int (J (i))), some (.int (J (j))), some (.int (J (w))), none, none] [] h _
  have hnp := hQ.2.2.1
  have hmd : pMd P ≤ 6000 := hQ.1
  by_cases hpp : 0 ≤ p ∧ p < pNp P
  · obtain ⟨x, y, hx⟩ := hP.2.1.2 p.toNat (by omega)
    have hB := hx.2.2
    have hok := hQ.2.2.2.1 p.toNat (by omega)
    have hlen := hok.1
    have hx74 := hx.1.1
    have hy74 := hx.1.2.1
    refine Ex_aload_n d_to_at_0 rfl ?_
    refine Ex_iload_n d_to_at_1 rfl ?_
    refine Ex_pV1 d_to_at_2 pk_to_at_139 (t_0 hs) (to_patternOf_z hs hP hQ hpp hx) ?_
    refine Ex_astore [some (.ref 0), some (.int (J (p))), some (.int (J (i))), some (.int (J (j))), some (.int (J (w))), some (.ref (x)), none] d_to_at_5 (Nat.le_of_ble_eq_true rfl) rfl ?_
    refine Ex_aload d_to_at_7 rfl ?_
    refine Ex_ifnull d_to_at_9 ?_
    refine Ex_iload d_to_at_12 rfl ?_
    refine Ex_if_ltZ (w) 23 d_to_at_14 rfl rfl (by omega) (fun hc14 => ?_) (fun hc14 => ?_)
    · refine Ex_iconst d_to_at_23 ic_m1 ?_
      refine Ex_ireturn d_to_at_24 rfl ?_
      exact Pu_m1 (by unfold atS; rw [if_neg (by omega)])
    · refine Ex_iload d_to_at_17 rfl ?_
      refine Ex_iconst d_to_at_19 ic_2 ?_
      refine Ex_icmp_leZ (w) ((2)) 25 d_to_at_20 rfl rfl (by decide) (by omega) (by omega) (fun hc20 => ?_) (fun hc20 => ?_)
      · refine Ex_aload d_to_at_25 rfl ?_
        refine Ex_iload_n d_to_at_27 rfl ?_
        refine Ex_i2lZ (i) d_to_at_28 rfl (by omega) ?_
        refine Ex_iload_n d_to_at_29 rfl ?_
        refine Ex_i2lZ (j) d_to_at_30 rfl (by omega) ?_
        refine Ex_pV2 d_to_at_31 pk_to_at_186 hB.1.1 (pa_cellAt_s hs hP.1 hQ hB hok (by omega) (by omega)) ?_
        refine Ex_istore [some (.ref 0), some (.int (J (p))), some (.int (J (i))), some (.int (J (j))), some (.int (J (w))), some (.ref (x)), some (.int (eA (lAt P (pPat P p.toNat) i j)))] d_to_at_34 (Nat.le_of_ble_eq_true rfl) rfl ?_
        have hcl : cAt P p.toNat i j = lAt P (pPat P p.toNat) i j := rfl
        have hca := lAt_ok hQ hok (i := i) (j := j)
        rw [← hcl] at hca ⊢
        match hcc : cAt P p.toNat i j, hca with
        | none, _ =>
          show Ex S to_at 36 [some (.ref 0), some (.int (J (p))), some (.int (J (i))), some (.int (J (j))), some (.int (J (w))), some (.ref (x)), some (.int (-2))] [] h _
          refine Ex_iload d_to_at_36 rfl ?_
          refine Ex_if_neZ (w) 47 d_to_at_38 rfl rfl (by omega) (fun hc38 => ?_) (fun hc38 => ?_)
          · refine Ex_iload d_to_at_47 rfl ?_
            refine Ex_iconst d_to_at_49 ic_1 ?_
            refine Ex_icmp_neZ (w) ((1)) 61 d_to_at_50 rfl rfl (by decide) (by omega) (by omega) (fun hc50 => ?_) (fun hc50 => ?_)
            · refine Ex_iload d_to_at_61 rfl ?_
              refine Ex_pS1 d_to_at_63 pk_to_at_206 (ce_shadeOf_n (by decide)) ?_
              refine Ex_ireturn d_to_at_66 rfl ?_
              exact Pu_zc (by rw [show atS P p i j w = (0) from (by unfold atS; rw [if_pos (by omega), hcc]; unfold atV; dsimp only; first | rw [if_pos (by omega)] | (rw [if_neg (by omega)]; done) | (rw [if_neg (by omega), if_pos (by omega)]) | (rw [if_neg (by omega), if_neg (by omega)]))]; decide)
            · refine Ex_iload d_to_at_53 rfl ?_
              refine Ex_pS1 d_to_at_55 pk_to_at_203 (ce_moveOf_n (by decide)) ?_
              refine Ex_goto 66 d_to_at_58 rfl ?_
              refine Ex_ireturn d_to_at_66 rfl ?_
              exact Pu_zc (by rw [show atS P p i j w = (0) from (by unfold atS; rw [if_pos (by omega), hcc]; unfold atV; dsimp only; first | rw [if_pos (by omega)] | (rw [if_neg (by omega)]; done) | (rw [if_neg (by omega), if_pos (by omega)]) | (rw [if_neg (by omega), if_neg (by omega)]))]; decide)
          · refine Ex_iload d_to_at_41 rfl ?_
            refine Ex_pS1 d_to_at_43 pk_to_at_200 (ce_kindOf_n (by decide)) ?_
            refine Ex_ireturn d_to_at_46 rfl ?_
            exact Pu_zc (by rw [show atS P p i j w = (-2) from (by unfold atS; rw [if_pos (by omega), hcc]; unfold atV; dsimp only; first | rw [if_pos (by omega)] | (rw [if_neg (by omega)]; done) | (rw [if_neg (by omega), if_pos (by omega)]) | (rw [if_neg (by omega), if_neg (by omega)]))]; decide)
        | some none, _ =>
          show Ex S to_at 36 [some (.ref 0), some (.int (J (p))), some (.int (J (i))), some (.int (J (j))), some (.int (J (w))), some (.ref (x)), some (.int (-1))] [] h _
          refine Ex_iload d_to_at_36 rfl ?_
          refine Ex_if_neZ (w) 47 d_to_at_38 rfl rfl (by omega) (fun hc38 => ?_) (fun hc38 => ?_)
          · refine Ex_iload d_to_at_47 rfl ?_
            refine Ex_iconst d_to_at_49 ic_1 ?_
            refine Ex_icmp_neZ (w) ((1)) 61 d_to_at_50 rfl rfl (by decide) (by omega) (by omega) (fun hc50 => ?_) (fun hc50 => ?_)
            · refine Ex_iload d_to_at_61 rfl ?_
              refine Ex_pS1 d_to_at_63 pk_to_at_206 (ce_shadeOf_n (by decide)) ?_
              refine Ex_ireturn d_to_at_66 rfl ?_
              exact Pu_zc (by rw [show atS P p i j w = (0) from (by unfold atS; rw [if_pos (by omega), hcc]; unfold atV; dsimp only; first | rw [if_pos (by omega)] | (rw [if_neg (by omega)]; done) | (rw [if_neg (by omega), if_pos (by omega)]) | (rw [if_neg (by omega), if_neg (by omega)]))]; decide)
            · refine Ex_iload d_to_at_53 rfl ?_
              refine Ex_pS1 d_to_at_55 pk_to_at_203 (ce_moveOf_n (by decide)) ?_
              refine Ex_goto 66 d_to_at_58 rfl ?_
              refine Ex_ireturn d_to_at_66 rfl ?_
              exact Pu_zc (by rw [show atS P p i j w = (0) from (by unfold atS; rw [if_pos (by omega), hcc]; unfold atV; dsimp only; first | rw [if_pos (by omega)] | (rw [if_neg (by omega)]; done) | (rw [if_neg (by omega), if_pos (by omega)]) | (rw [if_neg (by omega), if_neg (by omega)]))]; decide)
          · refine Ex_iload d_to_at_41 rfl ?_
            refine Ex_pS1 d_to_at_43 pk_to_at_200 (ce_kindOf_n (by decide)) ?_
            refine Ex_ireturn d_to_at_46 rfl ?_
            exact Pu_zc (by rw [show atS P p i j w = (-1) from (by unfold atS; rw [if_pos (by omega), hcc]; unfold atV; dsimp only; first | rw [if_pos (by omega)] | (rw [if_neg (by omega)]; done) | (rw [if_neg (by omega), if_pos (by omega)]) | (rw [if_neg (by omega), if_neg (by omega)]))]; decide)
        | some (some (k, m, t)), hca =>
          have hk40 : k < 40 := Nat.lt_of_lt_of_le hca.1 hO.1
          show Ex S to_at 36 [some (.ref 0), some (.int (J (p))), some (.int (J (i))), some (.int (J (j))), some (.int (J (w))), some (.ref (x)), some (.int (nI (k * 524288 + (m * 65536 + t))))] [] h _
          refine Ex_iload d_to_at_36 rfl ?_
          refine Ex_if_neZ (w) 47 d_to_at_38 rfl rfl (by omega) (fun hc38 => ?_) (fun hc38 => ?_)
          · refine Ex_iload d_to_at_47 rfl ?_
            refine Ex_iconst d_to_at_49 ic_1 ?_
            refine Ex_icmp_neZ (w) ((1)) 61 d_to_at_50 rfl rfl (by decide) (by omega) (by omega) (fun hc50 => ?_) (fun hc50 => ?_)
            · refine Ex_iload d_to_at_61 rfl ?_
              refine Ex_pS1 d_to_at_63 pk_to_at_206 (ce_shadeOf_t hk40 hca.2.1 hca.2.2) ?_
              refine Ex_ireturn d_to_at_66 rfl ?_
              exact Pu_z (Eq.symm (by unfold atS; rw [if_pos (by omega), hcc]; unfold atV; dsimp only; first | rw [if_pos (by omega)] | (rw [if_neg (by omega)]; done) | (rw [if_neg (by omega), if_pos (by omega)]) | (rw [if_neg (by omega), if_neg (by omega)])))
            · refine Ex_iload d_to_at_53 rfl ?_
              refine Ex_pS1 d_to_at_55 pk_to_at_203 (ce_moveOf_t hk40 hca.2.1 hca.2.2) ?_
              refine Ex_goto 66 d_to_at_58 rfl ?_
              refine Ex_ireturn d_to_at_66 rfl ?_
              exact Pu_nz (by unfold atS; rw [if_pos (by omega), hcc]; unfold atV; dsimp only; first | rw [if_pos (by omega)] | (rw [if_neg (by omega)]; done) | (rw [if_neg (by omega), if_pos (by omega)]) | (rw [if_neg (by omega), if_neg (by omega)]))
          · refine Ex_iload d_to_at_41 rfl ?_
            refine Ex_pS1 d_to_at_43 pk_to_at_200 (ce_kindOf_t hk40 hca.2.1 hca.2.2) ?_
            refine Ex_ireturn d_to_at_46 rfl ?_
            exact Pu_nz (by unfold atS; rw [if_pos (by omega), hcc]; unfold atV; dsimp only; first | rw [if_pos (by omega)] | (rw [if_neg (by omega)]; done) | (rw [if_neg (by omega), if_pos (by omega)]) | (rw [if_neg (by omega), if_neg (by omega)]))
      · refine Ex_iconst d_to_at_23 ic_m1 ?_
        refine Ex_ireturn d_to_at_24 rfl ?_
        exact Pu_m1 (by unfold atS; rw [if_neg (by omega)])
  · refine Ex_aload_n d_to_at_0 rfl ?_
    refine Ex_iload_n d_to_at_1 rfl ?_
    refine Ex_pV1 d_to_at_2 pk_to_at_139 (t_0 hs) (to_patternOf_n hs hP hQ hp hpp) ?_
    refine Ex_astore0 [some (.ref 0), some (.int (J (p))), some (.int (J (i))), some (.int (J (j))), some (.int (J (w))), some (.null), none] d_to_at_5 (Nat.le_of_ble_eq_true rfl) rfl ?_
    refine Ex_aload0 d_to_at_7 rfl ?_
    refine Ex_ifnull0 23 d_to_at_9 rfl ?_
    refine Ex_iconst d_to_at_23 ic_m1 ?_
    refine Ex_ireturn d_to_at_24 rfl ?_
    exact Pu_m1 (by unfold atS; rw [if_neg (by omega)])
theorem to_shares_s {S : mj_S} {h : mj_H} (hs : HT h) {P : SP} {Y : OW} (hP : PC P Y h) {n : Nat} (hQ : PO n P) {p i q k : Int} (hp : -2147483648 ≤ p ∧ p < 2147483648) (hi : -2147483648 ≤ i ∧ i < 2147483648) (hq : -2147483648 ≤ q ∧ q < 2147483648) (hk : -2147483648 ≤ k ∧ k < 2147483648) : Cl S to_shares [.ref 0, .int (J p), .int (J i), .int (J q), .int (J k)] h (Pu (.int (bI (decide (okShares P p i q k)))) h) := by
  show Ex S to_shares 0 [some (.ref 0), some (.int (J (p))), some (.int (J (i))), some (.int (J (q))), some (.int (J (k))), none, none] [] h _
  have hnp := hQ.2.2.1
  have hmd : pMd P ≤ 6000 := hQ.1
  by_cases hpp : 0 ≤ p ∧ p < pNp P
  · by_cases hppq : 0 ≤ q ∧ q < pNp P
    · obtain ⟨x, y, hx⟩ := hP.2.1.2 p.toNat (by omega)
      have hB := hx.2.2
      have hok := hQ.2.2.2.1 p.toNat (by omega)
      have hlen := hok.1
      have hx74 := hx.1.1
      have hy74 := hx.1.2.1
      obtain ⟨xq, yq, hxq⟩ := hP.2.1.2 q.toNat (by omega)
      have hBq := hxq.2.2
      have hokq := hQ.2.2.2.1 q.toNat (by omega)
      have hlenq := hokq.1
      have hx74q := hxq.1.1
      have hy74q := hxq.1.2.1
      refine Ex_aload_n d_to_shares_0 rfl ?_
      refine Ex_iload_n d_to_shares_1 rfl ?_
      refine Ex_pV1 d_to_shares_2 pk_to_shares_139 (t_0 hs) (to_patternOf_z hs hP hQ hpp hx) ?_
      refine Ex_astore [some (.ref 0), some (.int (J (p))), some (.int (J (i))), some (.int (J (q))), some (.int (J (k))), some (.ref (x)), none] d_to_shares_5 (Nat.le_of_ble_eq_true rfl) rfl ?_
      refine Ex_aload_n d_to_shares_7 rfl ?_
      refine Ex_iload_n d_to_shares_8 rfl ?_
      refine Ex_pV1 d_to_shares_9 pk_to_shares_139 (t_0 hs) (to_patternOf_z hs hP hQ hppq hxq) ?_
      refine Ex_astore [some (.ref 0), some (.int (J (p))), some (.int (J (i))), some (.int (J (q))), some (.int (J (k))), some (.ref (x)), some (.ref (xq))] d_to_shares_12 (Nat.le_of_ble_eq_true rfl) rfl ?_
      refine Ex_aload d_to_shares_14 rfl ?_
      refine Ex_ifnull d_to_shares_16 ?_
      refine Ex_aload d_to_shares_19 rfl ?_
      refine Ex_ifnull d_to_shares_21 ?_
      refine Ex_aload d_to_shares_24 rfl ?_
      refine Ex_iload_n d_to_shares_26 rfl ?_
      refine Ex_i2lZ (i) d_to_shares_27 rfl (by omega) ?_
      refine Ex_pV1 d_to_shares_28 pk_to_shares_164 hB.1.1 (pa_hasRow_s hB hlen (by omega)) ?_
      refine Ex_if_eqB (decide (0 ≤ i ∧ i < (pPat P p.toNat).length)) 45 d_to_shares_31 rfl rfl (fun hc31 => ?_) (fun hc31 => ?_)
      · rw [decide_eq_false_iff_not] at hc31
        refine Ex_iconst d_to_shares_45 ic_0 ?_
        refine Ex_zreturn d_to_shares_46 rfl (by decide) ?_
        exact Pu_f (by rintro ⟨z1, z2, z3, z4, z5, z6, z7, z8, z9⟩; omega)
      · rw [decide_eq_true_eq] at hc31
        refine Ex_aload d_to_shares_34 rfl ?_
        refine Ex_iload d_to_shares_36 rfl ?_
        refine Ex_i2lZ (k) d_to_shares_38 rfl (by omega) ?_
        refine Ex_pV1 d_to_shares_39 pk_to_shares_164 hBq.1.1 (pa_hasRow_s hBq hlenq (by omega)) ?_
        refine Ex_if_neB (decide (0 ≤ k ∧ k < (pPat P q.toNat).length)) 47 d_to_shares_42 rfl rfl (fun hc42 => ?_) (fun hc42 => ?_)
        · rw [decide_eq_true_eq] at hc42
          obtain ⟨r1, e1, b1, c1⟩ := idS_in hok (i := i) (by omega)
          obtain ⟨r2, e2, b2, c2⟩ := idS_in hokq (i := k) (by omega)
          refine Ex_aload d_to_shares_47 rfl ?_
          refine Ex_iload_n d_to_shares_49 rfl ?_
          refine Ex_i2lZ (i) d_to_shares_50 rfl (by omega) ?_
          refine Ex_pV1 d_to_shares_51 pk_to_shares_171 hB.1.1 (pa_idAt_s hB hlen (by omega)) ?_
          refine Ex_aload d_to_shares_54 rfl ?_
          refine Ex_iload d_to_shares_56 rfl ?_
          refine Ex_i2lZ (k) d_to_shares_58 rfl (by omega) ?_
          refine Ex_pV1 d_to_shares_59 pk_to_shares_171 hBq.1.1 (pa_idAt_s hBq hlenq (by omega)) ?_
          refine Ex_icmp_neZ (idS (pPat P p.toNat) i) (idS (pPat P q.toNat) k) 69 d_to_shares_62 rfl rfl rfl (by omega) (by omega) (fun hc62 => ?_) (fun hc62 => ?_)
          · refine Ex_iconst d_to_shares_69 ic_0 ?_
            refine Ex_zreturn d_to_shares_70 rfl (by decide) ?_
            exact Pu_f (by rintro ⟨z1, z2, z3, z4, z5, z6, z7, z8, z9⟩; omega)
          · refine Ex_iconst d_to_shares_65 ic_1 ?_
            refine Ex_goto 70 d_to_shares_66 rfl ?_
            refine Ex_zreturn d_to_shares_70 rfl (by decide) ?_
            exact Pu_t ⟨by omega, by omega, by omega, by omega, by omega, by omega, by omega, by omega, by omega⟩
        · rw [decide_eq_false_iff_not] at hc42
          refine Ex_iconst d_to_shares_45 ic_0 ?_
          refine Ex_zreturn d_to_shares_46 rfl (by decide) ?_
          exact Pu_f (by rintro ⟨z1, z2, z3, z4, z5, z6, z7, z8, z9⟩; omega)
    · obtain ⟨x, y, hx⟩ := hP.2.1.2 p.toNat (by omega)
      have hB := hx.2.2
      have hok := hQ.2.2.2.1 p.toNat (by omega)
      have hlen := hok.1
      have hx74 := hx.1.1
      have hy74 := hx.1.2.1
      refine Ex_aload_n d_to_shares_0 rfl ?_
      refine Ex_iload_n d_to_shares_1 rfl ?_
      refine Ex_pV1 d_to_shares_2 pk_to_shares_139 (t_0 hs) (to_patternOf_z hs hP hQ hpp hx) ?_
      refine Ex_astore [some (.ref 0), some (.int (J (p))), some (.int (J (i))), some (.int (J (q))), some (.int (J (k))), some (.ref (x)), none] d_to_shares_5 (Nat.le_of_ble_eq_true rfl) rfl ?_
      refine Ex_aload_n d_to_shares_7 rfl ?_
      refine Ex_iload_n d_to_shares_8 rfl ?_
      refine Ex_pV1 d_to_shares_9 pk_to_shares_139 (t_0 hs) (to_patternOf_n hs hP hQ hq hppq) ?_
      refine Ex_astore0 [some (.ref 0), some (.int (J (p))), some (.int (J (i))), some (.int (J (q))), some (.int (J (k))), some (.ref (x)), some (.null)] d_to_shares_12 (Nat.le_of_ble_eq_true rfl) rfl ?_
      refine Ex_aload d_to_shares_14 rfl ?_
      refine Ex_ifnull d_to_shares_16 ?_
      refine Ex_aload0 d_to_shares_19 rfl ?_
      refine Ex_ifnull0 45 d_to_shares_21 rfl ?_
      refine Ex_iconst d_to_shares_45 ic_0 ?_
      refine Ex_zreturn d_to_shares_46 rfl (by decide) ?_
      exact Pu_f (fun z => hppq ⟨z.2.2.1, z.2.2.2.1⟩)
  · by_cases hppq : 0 ≤ q ∧ q < pNp P
    · obtain ⟨xq, yq, hxq⟩ := hP.2.1.2 q.toNat (by omega)
      have hBq := hxq.2.2
      have hokq := hQ.2.2.2.1 q.toNat (by omega)
      have hlenq := hokq.1
      have hx74q := hxq.1.1
      have hy74q := hxq.1.2.1
      refine Ex_aload_n d_to_shares_0 rfl ?_
      refine Ex_iload_n d_to_shares_1 rfl ?_
      refine Ex_pV1 d_to_shares_2 pk_to_shares_139 (t_0 hs) (to_patternOf_n hs hP hQ hp hpp) ?_
      refine Ex_astore0 [some (.ref 0), some (.int (J (p))), some (.int (J (i))), some (.int (J (q))), some (.int (J (k))), some (.null), none] d_to_shares_5 (Nat.le_of_ble_eq_true rfl) rfl ?_
      refine Ex_aload_n d_to_shares_7 rfl ?_
      refine Ex_iload_n d_to_shares_8 rfl ?_
      refine Ex_pV1 d_to_shares_9 pk_to_shares_139 (t_0 hs) (to_patternOf_z hs hP hQ hppq hxq) ?_
      refine Ex_astore [some (.ref 0), some (.int (J (p))), some (.int (J (i))), some (.int (J (q))), some (.int (J (k))), some (.null), some (.ref (xq))] d_to_shares_12 (Nat.le_of_ble_eq_true rfl) rfl ?_
      refine Ex_aload0 d_to_shares_14 rfl ?_
      refine Ex_ifnull0 45 d_to_shares_16 rfl ?_
      refine Ex_iconst d_to_shares_45 ic_0 ?_
      refine Ex_zreturn d_to_shares_46 rfl (by decide) ?_
      exact Pu_f (fun z => hpp ⟨z.1, z.2.1⟩)
    · refine Ex_aload_n d_to_shares_0 rfl ?_
      refine Ex_iload_n d_to_shares_1 rfl ?_
      refine Ex_pV1 d_to_shares_2 pk_to_shares_139 (t_0 hs) (to_patternOf_n hs hP hQ hp hpp) ?_
      refine Ex_astore0 [some (.ref 0), some (.int (J (p))), some (.int (J (i))), some (.int (J (q))), some (.int (J (k))), some (.null), none] d_to_shares_5 (Nat.le_of_ble_eq_true rfl) rfl ?_
      refine Ex_aload_n d_to_shares_7 rfl ?_
      refine Ex_iload_n d_to_shares_8 rfl ?_
      refine Ex_pV1 d_to_shares_9 pk_to_shares_139 (t_0 hs) (to_patternOf_n hs hP hQ hq hppq) ?_
      refine Ex_astore0 [some (.ref 0), some (.int (J (p))), some (.int (J (i))), some (.int (J (q))), some (.int (J (k))), some (.null), some (.null)] d_to_shares_12 (Nat.le_of_ble_eq_true rfl) rfl ?_
      refine Ex_aload0 d_to_shares_14 rfl ?_
      refine Ex_ifnull0 45 d_to_shares_16 rfl ?_
      refine Ex_iconst d_to_shares_45 ic_0 ?_
      refine Ex_zreturn d_to_shares_46 rfl (by decide) ?_
      exact Pu_f (fun z => hpp ⟨z.1, z.2.1⟩)
theorem pa_placesOf_L {S : mj_S} {h : mj_H} {x y : Nat} {l : List Nat} (hB : Pob h x y l) {md r : Nat} (hl : okL md l) (hmd : md ≤ 6000) (hr : r < md) : ∀ d k : Nat, k + d = l.length → Ex S pa_placesOf 4 [some (.ref (x)), some (.int (nI (r))), some (.int (nI ((l.take k).count r))), some (.int (nI (k)))] [] h (Pu (.int (nI (l.count r))) h) := by
  have hlen := hl.1
  intro d
  induction d with
  | zero =>
    intro k hk
    obtain rfl : k = l.length := by omega
    rw [List.take_length]
    refine Ex_iload_n d_pa_placesOf_4 rfl ?_
    refine Ex_aload_n d_pa_placesOf_5 rfl ?_
    refine Ex_getIE d_pa_placesOf_6 pf_pa_19 rfl hB.1.1 hB.2.1 ?_
    refine Ex_icmp_geN (l.length) (l.length) 36 d_pa_placesOf_9 rfl rfl rfl (by omega) (by omega) (fun hc9 => ?_) (fun hc9 => ?_)
    · refine Ex_iload_n d_pa_placesOf_36 rfl ?_
      refine Ex_ireturn d_pa_placesOf_37 rfl ?_
      exact ⟨rfl, rfl⟩
    · exfalso; omega
  | succ d ih =>
    intro k hk
    have hx := hl.2 _ (getD_mem (l := l) (i := k) (by omega))
    have hcs := cnt_s (l := l) (k := k) (r := r) (by omega)
    refine Ex_iload_n d_pa_placesOf_4 rfl ?_
    refine Ex_aload_n d_pa_placesOf_5 rfl ?_
    refine Ex_getIE d_pa_placesOf_6 pf_pa_19 rfl hB.1.1 hB.2.1 ?_
    refine Ex_icmp_geN (k) (l.length) 36 d_pa_placesOf_9 rfl rfl rfl (by omega) (by omega) (fun hc9 => ?_) (fun hc9 => ?_)
    · exfalso; omega
    · refine Ex_iload_n d_pa_placesOf_12 rfl ?_
      refine Ex_aload_n d_pa_placesOf_13 rfl ?_
      refine Ex_getR d_pa_placesOf_14 pf_pa_11 rfl hB.1.1 (congrArg va_rf hB.1.2.2.1) ?_
      refine Ex_iload_n d_pa_placesOf_17 rfl ?_
      refine Ex_ialoadN (a := k) d_pa_placesOf_18 hB.1.2.2.2 rfl (by omega) (by decide) (hB.2.2 _ (by omega)) ?_
      refine Ex_iload_n d_pa_placesOf_19 rfl ?_
      refine Ex_icmp_neN (l.getD k 0) (r) 27 d_pa_placesOf_20 rfl rfl rfl (by omega) (by omega) (fun hc20 => ?_) (fun hc20 => ?_)
      · refine Ex_iconst d_pa_placesOf_27 ic_0 ?_
        refine Ex_iaddN ((l.take k).count r) (0) d_pa_placesOf_28 rfl rfl ?_
        refine Ex_istore_n [some (.ref (x)), some (.int (nI (r))), some (.int (nI (((l.take k).count r) + 0))), some (.int (nI (k)))] d_pa_placesOf_29 (Nat.le_of_ble_eq_true rfl) rfl ?_
        refine Ex_iincN (k) 1 [some (.ref (x)), some (.int (nI (r))), some (.int (nI (((l.take k).count r) + 0))), some (.int (nI (k + 1)))] d_pa_placesOf_30 rfl rfl rfl rfl ?_
        refine Ex_goto 4 d_pa_placesOf_33 rfl ?_
        have z := ih (k + 1) (by omega)
        rw [hcs] at z
        first | (rw [if_pos (by assumption)] at z; exact z) | (rw [if_neg (by assumption)] at z; exact z)
      · refine Ex_iconst d_pa_placesOf_23 ic_1 ?_
        refine Ex_goto 28 d_pa_placesOf_24 rfl ?_
        refine Ex_iaddN ((l.take k).count r) (1) d_pa_placesOf_28 rfl rfl ?_
        refine Ex_istore_n [some (.ref (x)), some (.int (nI (r))), some (.int (nI (((l.take k).count r) + 1))), some (.int (nI (k)))] d_pa_placesOf_29 (Nat.le_of_ble_eq_true rfl) rfl ?_
        refine Ex_iincN (k) 1 [some (.ref (x)), some (.int (nI (r))), some (.int (nI (((l.take k).count r) + 1))), some (.int (nI (k + 1)))] d_pa_placesOf_30 rfl rfl rfl rfl ?_
        refine Ex_goto 4 d_pa_placesOf_33 rfl ?_
        have z := ih (k + 1) (by omega)
        rw [hcs] at z
        first | (rw [if_pos (by assumption)] at z; exact z) | (rw [if_neg (by assumption)] at z; exact z)
theorem pa_placesOf_s {S : mj_S} {h : mj_H} {x y : Nat} {l : List Nat} (hB : Pob h x y l) {md r : Nat} (hl : okL md l) (hmd : md ≤ 6000) (hr : r < md) : Cl S pa_placesOf [.ref (x), .int (nI (r))] h (Pu (.int (nI (l.count r))) h) := by
  show Ex S pa_placesOf 0 [some (.ref (x)), some (.int (nI (r))), none, none] [] h _
  refine Ex_iconst d_pa_placesOf_0 ic_0 ?_
  refine Ex_istore_n [some (.ref (x)), some (.int (nI (r))), some (.int (0)), none] d_pa_placesOf_1 (Nat.le_of_ble_eq_true rfl) rfl ?_
  refine Ex_iconst d_pa_placesOf_2 ic_0 ?_
  refine Ex_istore_n [some (.ref (x)), some (.int (nI (r))), some (.int (0)), some (.int (0))] d_pa_placesOf_3 (Nat.le_of_ble_eq_true rfl) rfl ?_
  exact pa_placesOf_L hB hl hmd hr l.length 0 (by omega)
theorem to_placesOf_L {S : mj_S} {h : mj_H} (hs : HT h) {P : SP} {Y : OW} (hP : PC P Y h) {n : Nat} (hQ : PO n P) {r : Nat} (hr : r < pMd P) : ∀ d q : Nat, q + d = pNp P → Ex S to_placesOf 4 [some (.ref 0), some (.int (nI (r))), some (.int (nI (cP P r q))), some (.int (nI (q))), none] [] h (Pu (.int (nI (cP P r (pNp P)))) h) := by
  have hnp := hQ.2.2.1
  have hmd : pMd P ≤ 6000 := hQ.1
  intro d
  induction d with
  | zero =>
    intro q hq
    obtain rfl : q = pNp P := by omega
    refine Ex_iload_n d_to_placesOf_4 rfl ?_
    refine Ex_aload_n d_to_placesOf_5 rfl ?_
    refine Ex_getIE d_to_placesOf_6 pf_to_128 rfl (t_0 hs) hP.2.1.1 ?_
    refine Ex_icmp_geN (pNp P) (pNp P) 39 d_to_placesOf_9 rfl rfl rfl (by omega) (by omega) (fun hc9 => ?_) (fun hc9 => ?_)
    · refine Ex_iload_n d_to_placesOf_39 rfl ?_
      refine Ex_ireturn d_to_placesOf_40 rfl ?_
      exact ⟨rfl, rfl⟩
    · exfalso; omega
  | succ d ih =>
    intro q hq
    obtain ⟨x, y, hx⟩ := hP.2.1.2 q (by omega)
    refine Ex_iload_n d_to_placesOf_4 rfl ?_
    refine Ex_aload_n d_to_placesOf_5 rfl ?_
    refine Ex_getIE d_to_placesOf_6 pf_to_128 rfl (t_0 hs) hP.2.1.1 ?_
    refine Ex_icmp_geN (q) (pNp P) 39 d_to_placesOf_9 rfl rfl rfl (by omega) (by omega) (fun hc9 => ?_) (fun hc9 => ?_)
    · exfalso; omega
    · refine Ex_aload_n d_to_placesOf_12 rfl ?_
      refine Ex_iload_n d_to_placesOf_13 rfl ?_
      refine Ex_pV1 d_to_placesOf_14 pk_to_placesOf_139 (t_0 hs) (to_patternOf_s hs hP hQ (show q < pNp P by omega) hx) ?_
      refine Ex_astore [some (.ref 0), some (.int (nI (r))), some (.int (nI (cP P r q))), some (.int (nI (q))), some (.ref (x))] d_to_placesOf_17 (Nat.le_of_ble_eq_true rfl) rfl ?_
      refine Ex_aload d_to_placesOf_19 rfl ?_
      refine Ex_ifnull d_to_placesOf_21 ?_
      refine Ex_iload_n d_to_placesOf_24 rfl ?_
      refine Ex_aload d_to_placesOf_25 rfl ?_
      refine Ex_iload_n d_to_placesOf_27 rfl ?_
      refine Ex_pV1 d_to_placesOf_28 pk_to_placesOf_218 hx.2.2.1.1 (pa_placesOf_s hx.2.2 (hQ.2.2.2.1 q (by omega)) hmd hr) ?_
      refine Ex_iaddN (cP P r q) ((pPat P q).count r) d_to_placesOf_31 rfl rfl ?_
      refine Ex_istore_n [some (.ref 0), some (.int (nI (r))), some (.int (nI ((cP P r q) + ((pPat P q).count r)))), some (.int (nI (q))), some (.ref (x))] d_to_placesOf_32 (Nat.le_of_ble_eq_true rfl) rfl ?_
      refine Ex_iincN (q) 1 [some (.ref 0), some (.int (nI (r))), some (.int (nI ((cP P r q) + ((pPat P q).count r)))), some (.int (nI (q + 1))), some (.ref (x))] d_to_placesOf_33 rfl rfl rfl rfl ?_
      refine Ex_goto 4 d_to_placesOf_36 rfl ?_
      refine Ex_forget (ls' := [some (.ref 0), some (.int (nI (r))), some (.int (nI ((cP P r q) + ((pPat P q).count r)))), some (.int (nI (q + 1))), none]) (sub_s (sub_s (sub_s (sub_s (sub_n sub_0))))) ?_
      exact ih (q + 1) (by omega)
theorem to_placesOf_s {S : mj_S} {h : mj_H} (hs : HT h) {P : SP} {Y : OW} (hP : PC P Y h) {n : Nat} (hQ : PO n P) {r : Nat} (hr : r < pMd P) : Cl S to_placesOf [.ref 0, .int (nI (r))] h (Pu (.int (nI (cP P r (pNp P)))) h) := by
  show Ex S to_placesOf 0 [some (.ref 0), some (.int (nI (r))), none, none, none] [] h _
  refine Ex_iconst d_to_placesOf_0 ic_0 ?_
  refine Ex_istore_n [some (.ref 0), some (.int (nI (r))), some (.int (0)), none, none] d_to_placesOf_1 (Nat.le_of_ble_eq_true rfl) rfl ?_
  refine Ex_iconst d_to_placesOf_2 ic_0 ?_
  refine Ex_istore_n [some (.ref 0), some (.int (nI (r))), some (.int (0)), some (.int (0)), none] d_to_placesOf_3 (Nat.le_of_ble_eq_true rfl) rfl ?_
  exact to_placesOf_L hs hP hQ hr (pNp P) 0 (by omega)
theorem to_row_s {S : mj_S} {h : mj_H} (hs : HT h) {P : SP} {Y : OW} (hP : PC P Y h) {n : Nat} (hQ : PO n P) {p i w : Int} (hp : -2147483648 ≤ p ∧ p < 2147483648) (hi : -2147483648 ≤ i ∧ i < 2147483648) (hw : -2147483648 ≤ w ∧ w < 2147483648) : Cl S to_row [.ref 0, .int (J (p)), .int (J (i)), .int (J (w))] h (Pu (.int (J (rowS P p i w))) h) := by
  show Ex S to_row 0 [some (.ref 0), some (.int (J (p))), some (.int (J (i))), some (.int (J (w))), none] [] h _
  have hnp := hQ.2.2.1
  have hmd : pMd P ≤ 6000 := hQ.1
  by_cases hpp : 0 ≤ p ∧ p < pNp P
  · obtain ⟨x, y, hx⟩ := hP.2.1.2 p.toNat (by omega)
    have hB := hx.2.2
    have hok := hQ.2.2.2.1 p.toNat (by omega)
    have hlen := hok.1
    have hx74 := hx.1.1
    have hy74 := hx.1.2.1
    refine Ex_aload_n d_to_row_0 rfl ?_
    refine Ex_iload_n d_to_row_1 rfl ?_
    refine Ex_pV1 d_to_row_2 pk_to_row_139 (t_0 hs) (to_patternOf_z hs hP hQ hpp hx) ?_
    refine Ex_astore [some (.ref 0), some (.int (J (p))), some (.int (J (i))), some (.int (J (w))), some (.ref (x))] d_to_row_5 (Nat.le_of_ble_eq_true rfl) rfl ?_
    refine Ex_aload d_to_row_7 rfl ?_
    refine Ex_ifnull d_to_row_9 ?_
    refine Ex_aload d_to_row_12 rfl ?_
    refine Ex_iload_n d_to_row_14 rfl ?_
    refine Ex_i2lZ (i) d_to_row_15 rfl (by omega) ?_
    refine Ex_pV1 d_to_row_16 pk_to_row_164 hB.1.1 (pa_hasRow_s hB hlen (by omega)) ?_
    refine Ex_if_eqB (decide (0 ≤ i ∧ i < (pPat P p.toNat).length)) 31 d_to_row_19 rfl rfl (fun hc19 => ?_) (fun hc19 => ?_)
    · rw [decide_eq_false_iff_not] at hc19
      refine Ex_iconst d_to_row_31 ic_m1 ?_
      refine Ex_ireturn d_to_row_32 rfl ?_
      exact Pu_m1 (by unfold rowS; rw [if_neg (by omega)])
    · rw [decide_eq_true_eq] at hc19
      refine Ex_iload_n d_to_row_22 rfl ?_
      refine Ex_if_ltZ (w) 31 d_to_row_23 rfl rfl (by omega) (fun hc23 => ?_) (fun hc23 => ?_)
      · refine Ex_iconst d_to_row_31 ic_m1 ?_
        refine Ex_ireturn d_to_row_32 rfl ?_
        exact Pu_m1 (by unfold rowS; rw [if_neg (by omega)])
      · refine Ex_iload_n d_to_row_26 rfl ?_
        refine Ex_iconst d_to_row_27 ic_2 ?_
        refine Ex_icmp_leZ (w) ((2)) 33 d_to_row_28 rfl rfl (by decide) (by omega) (by omega) (fun hc28 => ?_) (fun hc28 => ?_)
        · obtain ⟨r1, e1, b1, c1⟩ := idS_in hok (i := i) (by omega)
          refine Ex_iload_n d_to_row_33 rfl ?_
          refine Ex_iconst d_to_row_34 ic_2 ?_
          refine Ex_icmp_neZ (w) ((2)) 50 d_to_row_35 rfl rfl (by decide) (by omega) (by omega) (fun hc35 => ?_) (fun hc35 => ?_)
          · refine Ex_iload_n d_to_row_50 rfl ?_
            refine Ex_if_neZ (w) 63 d_to_row_51 rfl rfl (by omega) (fun hc51 => ?_) (fun hc51 => ?_)
            · refine Ex_aload d_to_row_63 rfl ?_
              refine Ex_iload_n d_to_row_65 rfl ?_
              refine Ex_pV1 d_to_row_66 pk_to_row_215 hB.1.1 (pa_offsetAt_s hs hP.1 hQ hB hok (i := i) (by omega)) ?_
              refine Ex_ireturn d_to_row_69 rfl ?_
              exact Pu_z (by unfold rowS ofS; rw [if_pos (by omega), if_pos (by omega), if_neg (by omega), if_pos (by omega)])
            · refine Ex_aload d_to_row_54 rfl ?_
              refine Ex_iload_n d_to_row_56 rfl ?_
              refine Ex_pV1 d_to_row_57 pk_to_row_212 hB.1.1 (pa_lengthAt_s hs hP.1 hQ hB hok (i := i) (by omega)) ?_
              refine Ex_goto 69 d_to_row_60 rfl ?_
              refine Ex_ireturn d_to_row_69 rfl ?_
              exact Pu_nz (by unfold rowS lnS; rw [if_pos (by omega), if_pos (by omega), if_pos (by omega)])
          · refine Ex_aload_n d_to_row_38 rfl ?_
            refine Ex_aload d_to_row_39 rfl ?_
            refine Ex_iload_n d_to_row_41 rfl ?_
            refine Ex_i2lZ (i) d_to_row_42 rfl (by omega) ?_
            refine Ex_pV1 d_to_row_43 pk_to_row_171 hB.1.1 (pa_idAt_s hB hlen (by omega)) ?_
            refine Ex_pV1 d_to_row_46 pk_to_row_209 (t_0 hs) (show Cl S to_placesOf [.ref 0, .int (J (idS (pPat P p.toNat) i))] h _ by rw [e1, ← nIJ, c1]; exact to_placesOf_s hs hP hQ (by rw [← c1]; exact b1)) ?_
            refine Ex_ireturn d_to_row_49 rfl ?_
            exact Pu_nz (by unfold rowS; rw [if_pos (by omega), if_neg (by omega), if_neg (by omega)])
        · refine Ex_iconst d_to_row_31 ic_m1 ?_
          refine Ex_ireturn d_to_row_32 rfl ?_
          exact Pu_m1 (by unfold rowS; rw [if_neg (by omega)])
  · refine Ex_aload_n d_to_row_0 rfl ?_
    refine Ex_iload_n d_to_row_1 rfl ?_
    refine Ex_pV1 d_to_row_2 pk_to_row_139 (t_0 hs) (to_patternOf_n hs hP hQ hp hpp) ?_
    refine Ex_astore0 [some (.ref 0), some (.int (J (p))), some (.int (J (i))), some (.int (J (w))), some (.null)] d_to_row_5 (Nat.le_of_ble_eq_true rfl) rfl ?_
    refine Ex_aload0 d_to_row_7 rfl ?_
    refine Ex_ifnull0 31 d_to_row_9 rfl ?_
    refine Ex_iconst d_to_row_31 ic_m1 ?_
    refine Ex_ireturn d_to_row_32 rfl ?_
    exact Pu_m1 (by unfold rowS; rw [if_neg (by omega)])
