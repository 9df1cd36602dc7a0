/-! Five calls of the class again, with what they leave of the room. -/
theorem to_undo_z {S : mj_S} {h : mj_H} (hs : HT h) {P : SP} {Y : OW} (hP : PC P Y h) {n : Nat} (hQ : PO n P) : Cl S to_undo [.ref 0] h (fun r h' => r = some (.int (J (undoS P))) ∧ PC (undoP P) Y h' ∧ Fr (WPC Y) h h' ∧ h'.1 = h.1) := by
  cases hh : pHi P with
  | nil =>
    have hl0 : mI h 25 0 = nI 0 := by have := hP.2.2.1; rw [hh] at this; exact this
    show Ex S to_undo 0 [some (.ref 0), none] [] h _
    refine Ex_aload_n d_to_undo_0 rfl ?_
    refine Ex_getR d_to_undo_1 pf_to_55 rfl (t_0 hs) (r_0_4 hs) ?_
    refine Ex_getIE d_to_undo_4 pf_to_408 rfl (t_25 hs) hl0 ?_
    refine Ex_if_neN (0) 12 d_to_undo_7 rfl rfl (by omega) (fun hc7 => ?_) (fun hc7 => ?_)
    · exfalso; omega
    · refine Ex_iconst d_to_undo_10 ic_m1 ?_
      refine Ex_ireturn d_to_undo_11 rfl ?_
      exact ⟨by unfold undoS; rw [hh]; rfl, by unfold undoP; rw [hh]; exact hP, Fr.rf, rfl⟩
  | cons q l =>
    have hq := hQ.2.2.2.2.2 q (by rw [hh]; exact List.mem_cons_self ..)
    have hh40 := hQ.2.2.2.2.1
    have hl0 := hP.2.2.1
    rw [hh] at hl0 hh40
    simp only [List.length_cons] at hl0 hh40
    obtain ⟨x, y, hx⟩ := hP.2.1.2 q.1 hq.1
    have hB := hx.2.2
    have hx74 := hx.1.1
    have hy74 := hx.1.2.1
    show Ex S to_undo 0 [some (.ref 0), none] [] h _
    refine Ex_aload_n d_to_undo_0 rfl ?_
    refine Ex_getR d_to_undo_1 pf_to_55 rfl (t_0 hs) (r_0_4 hs) ?_
    refine Ex_getIE d_to_undo_4 pf_to_408 rfl (t_25 hs) hl0 ?_
    refine Ex_if_neN (l.length + 1) 12 d_to_undo_7 rfl rfl (by omega) (fun hc7 => ?_) (fun hc7 => ?_)
    · refine Ex_aload_n d_to_undo_12 rfl ?_
      refine Ex_aload_n d_to_undo_13 rfl ?_
      refine Ex_getR d_to_undo_14 pf_to_55 rfl (t_0 hs) (r_0_4 hs) ?_
      refine Ex_pV0 d_to_undo_17 pk_to_undo_411 (t_25 hs) (hi_latestPattern_s hs hP.2.2 hQ hh) ?_
      refine Ex_pV1 d_to_undo_20 pk_to_undo_139 (t_0 hs) (to_patternOf_s hs hP hQ hq.1 hx) ?_
      refine Ex_astore_n [some (.ref 0), some (.ref (x))] d_to_undo_23 (Nat.le_of_ble_eq_true rfl) rfl ?_
      refine Ex_aload_n d_to_undo_24 rfl ?_
      refine Ex_ifnull d_to_undo_25 ?_
      refine Ex_aload_n d_to_undo_28 rfl ?_
      refine Ex_getR d_to_undo_29 pf_to_55 rfl (t_0 hs) (r_0_4 hs) ?_
      refine Ex_aload_n d_to_undo_32 rfl ?_
      refine Ex_cV1 d_to_undo_33 pk_to_undo_414 (t_25 hs) (hi_giveBack_s hs hP.2.2 hQ hh hB hx74 hy74) ?_
      rintro rv h9 ⟨rfl, hH9, hB9, f9⟩
      have hs9 : HT h9 := f9.ht hs (fun q hq z => z.elim (WHc_st q hq) (Wab_st hx74 hy74 q hq))
      show Ex S to_undo 36 [some (.ref 0), some (.ref (x))] [] h9 _
      refine Ex_aload_n d_to_undo_36 rfl ?_
      refine Ex_getR d_to_undo_37 pf_to_55 rfl (t_0 hs9) (r_0_4 hs9) ?_
      refine Ex_getIE d_to_undo_40 pf_to_408 rfl (t_25 hs9) hH9.1 ?_
      refine Ex_ireturn d_to_undo_43 rfl ?_
      have hU : undoP P = uHi (uPat P q.1 q.2) l := by unfold undoP; rw [hh]
      refine ⟨?_, ?_, f9.mono (fun a k z => z.elim (WHc_C a k) (Wab_C hx a k)), f9.sz (fun z => z.elim (by unfold WHc; omega) (by unfold Wab; omega))⟩
      · unfold undoS
        rw [hh, nIJ]
        simp only [List.length_cons]
        exact congrArg (fun z => some (Value.int (J z))) (show ((l.length : Nat) : Int) = ((l.length + 1 : Nat) : Int) - 1 by omega)
      · rw [hU]
        refine ⟨RwC_fr hs f9 (fun a k z w => w.elim (fun w => ?_) (fun w => Wab_R hx a k z w)) OwE.rf hP.1, PaC_upd hs hP.2.1 hx f9 (fun u k w => ?_) OwE.rf hB9, hH9⟩
        · unfold WRc at z
          unfold WHc at w
          omega
        · obtain ⟨⟨z1, z2, z3, z4⟩, -⟩ := hx
          rcases w with w | rfl | ⟨rfl, -⟩
          · unfold WHc at w
            exact ⟨by omega, by omega, by omega⟩
          · exact ⟨by omega, by omega, fun _ _ => by rw [z4]⟩
          · exact ⟨by omega, by omega, fun _ _ => by rw [z3]⟩
    · exfalso; omega
theorem to_becomes_z {S : mj_S} {h : mj_H} (hs : HT h) {K : SK} (hK : KC K h) (hO : KO K) {R : SR} {Y : OW} (hR : RuC R Y h) (hRO : RO K.1 R) {r k i j o m : Int} (hr : -2147483648 ≤ r ∧ r < 2147483648) (hk : -2147483648 ≤ k ∧ k < 2147483648) (hi : -2147483648 ≤ i ∧ i < 2147483648) (hj : -2147483648 ≤ j ∧ j < 2147483648) (ho : -2147483648 ≤ o ∧ o < 2147483648) (hm : -2147483648 ≤ m ∧ m < 2147483648) : Cl S to_becomes [.ref 0, .int (J r), .int (J k), .int (J i), .int (J j), .int (J o), .int (J m)] h (Ans (okBe K R r k i j o m) (RuC R Y) (fun h' => RuC (beR K R r k i j o m) Y h' ∧ h'.1 = h.1) (WRuC Y) h) := by
  show Ex S to_becomes 0 [some (.ref 0), some (.int (J (r))), some (.int (J (k))), some (.int (J (i))), some (.int (J (j))), some (.int (J (o))), some (.int (J (m))), none] [] h _
  have h8 := hRO.1
  have hk40 := hO.1
  by_cases hrr : 0 ≤ r ∧ r < R.1
  · obtain ⟨a, b, c, d, hx⟩ := hR.2 r.toNat (by omega)
    obtain ⟨hz1, hz2⟩ := hRO.2 r.toNat (by omega)
    refine Ex_aload_n d_to_becomes_0 rfl ?_
    refine Ex_iload_n d_to_becomes_1 rfl ?_
    refine Ex_pV1 (v := .ref (a)) d_to_becomes_2 pk_to_becomes_269 (t_0 hs) (to_ruleOf_z hs hR hRO hrr hx) ?_
    refine Ex_astore [some (.ref 0), some (.int (J (r))), some (.int (J (k))), some (.int (J (i))), some (.int (J (j))), some (.int (J (o))), some (.int (J (m))), some (.ref (a))] d_to_becomes_5 (Nat.le_of_ble_eq_true rfl) rfl ?_
    refine Ex_aload d_to_becomes_7 rfl ?_
    refine Ex_ifnull d_to_becomes_9 ?_
    refine Ex_aload_n d_to_becomes_12 rfl ?_
    refine Ex_getR d_to_becomes_13 pf_to_20 rfl (t_0 hs) (r_0_0 hs) ?_
    refine Ex_iload_n d_to_becomes_16 rfl ?_
    refine Ex_pV1 (v := .int (bI (decide (0 ≤ k ∧ k < K.1)))) d_to_becomes_17 pk_to_becomes_110 (t_1 hs) (ki_has_s hs hK hO hk) ?_
    refine Ex_if_eqB (decide (0 ≤ k ∧ k < K.1)) 34 d_to_becomes_20 rfl rfl (fun hc20 => ?_) (fun hc20 => ?_)
    · rw [decide_eq_false_iff_not] at hc20
      refine Ex_iconst d_to_becomes_34 ic_0 ?_
      refine Ex_zreturn d_to_becomes_35 rfl (by decide) ?_
      exact Or.inl ⟨by unfold okBe; omega, rfl, rfl⟩
    · rw [decide_eq_true_eq] at hc20
      refine Ex_aload d_to_becomes_23 rfl ?_
      refine Ex_iload_n d_to_becomes_25 rfl ?_
      refine Ex_iload d_to_becomes_26 rfl ?_
      refine Ex_pV2 (v := .int (bI (decide (0 ≤ i ∧ i < rR R r.toNat ∧ 0 ≤ j ∧ j < rC R r.toNat)))) d_to_becomes_28 pk_to_becomes_273 hx.2.1.2.1 (ru_hasPlace_s hRO (by omega) hx hi hj) ?_
      refine Ex_if_neB (decide (0 ≤ i ∧ i < rR R r.toNat ∧ 0 ≤ j ∧ j < rC R r.toNat)) 36 d_to_becomes_31 rfl rfl (fun hc31 => ?_) (fun hc31 => ?_)
      · rw [decide_eq_true_eq] at hc31
        refine Ex_iload d_to_becomes_36 rfl ?_
        refine Ex_iconst d_to_becomes_38 ic_m1 ?_
        refine Ex_icmp_eqZ (o) ((-1)) 55 d_to_becomes_39 rfl rfl (by decide) (by omega) (by omega) (fun hc39 => ?_) (fun hc39 => ?_)
        · refine Ex_aload d_to_becomes_55 rfl ?_
          refine Ex_iload_n d_to_becomes_57 rfl ?_
          refine Ex_iload_n d_to_becomes_58 rfl ?_
          refine Ex_iload d_to_becomes_59 rfl ?_
          refine Ex_iload d_to_becomes_61 rfl ?_
          refine Ex_iconst d_to_becomes_63 ic_m1 ?_
          refine Ex_icmp_neZ (o) ((-1)) 71 d_to_becomes_64 rfl rfl (by decide) (by omega) (by omega) (fun hc64 => ?_) (fun hc64 => ?_)
          · refine Ex_aload_n d_to_becomes_71 rfl ?_
            refine Ex_getR d_to_becomes_72 pf_to_20 rfl (t_0 hs) (r_0_0 hs) ?_
            refine Ex_iload d_to_becomes_75 rfl ?_
            refine Ex_iload d_to_becomes_77 rfl ?_
            refine Ex_pV2 (v := .int (eC (some (o.toNat, kLie K o.toNat m.toNat, 0)))) d_to_becomes_79 pk_to_becomes_183 (t_1 hs) (show Cl S ki_cellOf [.ref 1, .int (J o), .int (J m)] h _ by rw [J_pos (show 0 ≤ o by omega), J_pos (show 0 ≤ m by omega)]; exact ki_cellOf_s hs hK hO (by omega) (by omega)) ?_
            refine Ex_cV4 d_to_becomes_82 pk_to_becomes_276 hx.2.1.2.1 (show Cl S ru_setCell [.ref a, .int (J k), .int (J i), .int (J j), .int (eC (some (o.toNat, kLie K o.toNat m.toNat, 0)))] h (fun rv h1 => rv = none ∧ h1 = wI h b (k.toNat * 16 + i.toNat * 4 + j.toNat) (eC (some (o.toNat, kLie K o.toNat m.toNat, 0)))) by rw [J_pos (show 0 ≤ k by omega), J_pos (show 0 ≤ i by omega), J_pos (show 0 ≤ j by omega)]; exact ru_setCell_s hRO (show r.toNat < R.1 by omega) hx (by omega) (by omega) (by omega) _) ?_
            rintro rv hh ⟨rfl, rfl⟩
            show Ex S to_becomes 85 [some (.ref 0), some (.int (J (r))), some (.int (J (k))), some (.int (J (i))), some (.int (J (j))), some (.int (J (o))), some (.int (J (m))), some (.ref (a))] [] (wI h b (k.toNat * 16 + i.toNat * 4 + j.toNat) (eC (some (o.toNat, kLie K o.toNat m.toNat, 0)))) _
            refine Ex_iconst d_to_becomes_85 ic_1 ?_
            refine Ex_zreturn d_to_becomes_86 rfl (by decide) ?_
            have z := RuC_set hs hR (t := 16 * k.toNat + 4 * i.toNat + j.toNat) (by omega) (some (o.toNat, kLie K o.toNat m.toNat, 0)) (show r.toNat < R.1 by omega) hx (u := k.toNat * 16 + i.toNat * 4 + j.toNat)
            refine Or.inr ⟨⟨by omega, by omega, by omega, by omega, by omega, by omega, by omega, by omega, by omega⟩, rfl, ⟨?_, rfl⟩, z.2⟩
            unfold beR putC
            rw [if_neg (by omega)]
            exact z.1
          · refine Ex_iconst d_to_becomes_67 ic_m1 ?_
            refine Ex_goto 82 d_to_becomes_68 rfl ?_
            refine Ex_cV4 d_to_becomes_82 pk_to_becomes_276 hx.2.1.2.1 (show Cl S ru_setCell [.ref a, .int (J k), .int (J i), .int (J j), .int (-1 : Int32)] h (fun rv h1 => rv = none ∧ h1 = wI h b (k.toNat * 16 + i.toNat * 4 + j.toNat) (-1 : Int32)) by rw [J_pos (show 0 ≤ k by omega), J_pos (show 0 ≤ i by omega), J_pos (show 0 ≤ j by omega)]; exact ru_setCell_s hRO (show r.toNat < R.1 by omega) hx (by omega) (by omega) (by omega) _) ?_
            rintro rv hh ⟨rfl, rfl⟩
            show Ex S to_becomes 85 [some (.ref 0), some (.int (J (r))), some (.int (J (k))), some (.int (J (i))), some (.int (J (j))), some (.int (J (o))), some (.int (J (m))), some (.ref (a))] [] (wI h b (k.toNat * 16 + i.toNat * 4 + j.toNat) (-1 : Int32)) _
            refine Ex_iconst d_to_becomes_85 ic_1 ?_
            refine Ex_zreturn d_to_becomes_86 rfl (by decide) ?_
            have z := RuC_set hs hR (t := 16 * k.toNat + 4 * i.toNat + j.toNat) (by omega) none (show r.toNat < R.1 by omega) hx (u := k.toNat * 16 + i.toNat * 4 + j.toNat)
            refine Or.inr ⟨⟨by omega, by omega, by omega, by omega, by omega, by omega, by omega, by omega, by omega⟩, rfl, ⟨?_, rfl⟩, z.2⟩
            unfold beR putC
            rw [if_pos (by omega)]
            exact z.1
        · refine Ex_aload_n d_to_becomes_42 rfl ?_
          refine Ex_iload d_to_becomes_43 rfl ?_
          refine Ex_iload d_to_becomes_45 rfl ?_
          refine Ex_pV2 (v := .int (bI (decide (0 ≤ o ∧ o < K.1 ∧ 0 ≤ m ∧ m < 8)))) d_to_becomes_47 pk_to_becomes_180 (t_0 hs) (to_isKindInMove_s hs hK hO ho hm) ?_
          refine Ex_if_neB (decide (0 ≤ o ∧ o < K.1 ∧ 0 ≤ m ∧ m < 8)) 55 d_to_becomes_50 rfl rfl (fun hc50 => ?_) (fun hc50 => ?_)
          · rw [decide_eq_true_eq] at hc50
            refine Ex_aload d_to_becomes_55 rfl ?_
            refine Ex_iload_n d_to_becomes_57 rfl ?_
            refine Ex_iload_n d_to_becomes_58 rfl ?_
            refine Ex_iload d_to_becomes_59 rfl ?_
            refine Ex_iload d_to_becomes_61 rfl ?_
            refine Ex_iconst d_to_becomes_63 ic_m1 ?_
            refine Ex_icmp_neZ (o) ((-1)) 71 d_to_becomes_64 rfl rfl (by decide) (by omega) (by omega) (fun hc64 => ?_) (fun hc64 => ?_)
            · refine Ex_aload_n d_to_becomes_71 rfl ?_
              refine Ex_getR d_to_becomes_72 pf_to_20 rfl (t_0 hs) (r_0_0 hs) ?_
              refine Ex_iload d_to_becomes_75 rfl ?_
              refine Ex_iload d_to_becomes_77 rfl ?_
              refine Ex_pV2 (v := .int (eC (some (o.toNat, kLie K o.toNat m.toNat, 0)))) d_to_becomes_79 pk_to_becomes_183 (t_1 hs) (show Cl S ki_cellOf [.ref 1, .int (J o), .int (J m)] h _ by rw [J_pos (show 0 ≤ o by omega), J_pos (show 0 ≤ m by omega)]; exact ki_cellOf_s hs hK hO (by omega) (by omega)) ?_
              refine Ex_cV4 d_to_becomes_82 pk_to_becomes_276 hx.2.1.2.1 (show Cl S ru_setCell [.ref a, .int (J k), .int (J i), .int (J j), .int (eC (some (o.toNat, kLie K o.toNat m.toNat, 0)))] h (fun rv h1 => rv = none ∧ h1 = wI h b (k.toNat * 16 + i.toNat * 4 + j.toNat) (eC (some (o.toNat, kLie K o.toNat m.toNat, 0)))) by rw [J_pos (show 0 ≤ k by omega), J_pos (show 0 ≤ i by omega), J_pos (show 0 ≤ j by omega)]; exact ru_setCell_s hRO (show r.toNat < R.1 by omega) hx (by omega) (by omega) (by omega) _) ?_
              rintro rv hh ⟨rfl, rfl⟩
              show Ex S to_becomes 85 [some (.ref 0), some (.int (J (r))), some (.int (J (k))), some (.int (J (i))), some (.int (J (j))), some (.int (J (o))), some (.int (J (m))), some (.ref (a))] [] (wI h b (k.toNat * 16 + i.toNat * 4 + j.toNat) (eC (some (o.toNat, kLie K o.toNat m.toNat, 0)))) _
              refine Ex_iconst d_to_becomes_85 ic_1 ?_
              refine Ex_zreturn d_to_becomes_86 rfl (by decide) ?_
              have z := RuC_set hs hR (t := 16 * k.toNat + 4 * i.toNat + j.toNat) (by omega) (some (o.toNat, kLie K o.toNat m.toNat, 0)) (show r.toNat < R.1 by omega) hx (u := k.toNat * 16 + i.toNat * 4 + j.toNat)
              refine Or.inr ⟨⟨by omega, by omega, by omega, by omega, by omega, by omega, by omega, by omega, by omega⟩, rfl, ⟨?_, rfl⟩, z.2⟩
              unfold beR putC
              rw [if_neg (by omega)]
              exact z.1
            · refine Ex_iconst d_to_becomes_67 ic_m1 ?_
              refine Ex_goto 82 d_to_becomes_68 rfl ?_
              refine Ex_cV4 d_to_becomes_82 pk_to_becomes_276 hx.2.1.2.1 (show Cl S ru_setCell [.ref a, .int (J k), .int (J i), .int (J j), .int (-1 : Int32)] h (fun rv h1 => rv = none ∧ h1 = wI h b (k.toNat * 16 + i.toNat * 4 + j.toNat) (-1 : Int32)) by rw [J_pos (show 0 ≤ k by omega), J_pos (show 0 ≤ i by omega), J_pos (show 0 ≤ j by omega)]; exact ru_setCell_s hRO (show r.toNat < R.1 by omega) hx (by omega) (by omega) (by omega) _) ?_
              rintro rv hh ⟨rfl, rfl⟩
              show Ex S to_becomes 85 [some (.ref 0), some (.int (J (r))), some (.int (J (k))), some (.int (J (i))), some (.int (J (j))), some (.int (J (o))), some (.int (J (m))), some (.ref (a))] [] (wI h b (k.toNat * 16 + i.toNat * 4 + j.toNat) (-1 : Int32)) _
              refine Ex_iconst d_to_becomes_85 ic_1 ?_
              refine Ex_zreturn d_to_becomes_86 rfl (by decide) ?_
              have z := RuC_set hs hR (t := 16 * k.toNat + 4 * i.toNat + j.toNat) (by omega) none (show r.toNat < R.1 by omega) hx (u := k.toNat * 16 + i.toNat * 4 + j.toNat)
              refine Or.inr ⟨⟨by omega, by omega, by omega, by omega, by omega, by omega, by omega, by omega, by omega⟩, rfl, ⟨?_, rfl⟩, z.2⟩
              unfold beR putC
              rw [if_pos (by omega)]
              exact z.1
          · rw [decide_eq_false_iff_not] at hc50
            refine Ex_iconst d_to_becomes_53 ic_0 ?_
            refine Ex_zreturn d_to_becomes_54 rfl (by decide) ?_
            exact Or.inl ⟨by unfold okBe; omega, rfl, rfl⟩
      · rw [decide_eq_false_iff_not] at hc31
        refine Ex_iconst d_to_becomes_34 ic_0 ?_
        refine Ex_zreturn d_to_becomes_35 rfl (by decide) ?_
        exact Or.inl ⟨by unfold okBe; omega, rfl, rfl⟩
  · refine Ex_aload_n d_to_becomes_0 rfl ?_
    refine Ex_iload_n d_to_becomes_1 rfl ?_
    refine Ex_pV1 (v := .null) d_to_becomes_2 pk_to_becomes_269 (t_0 hs) (to_ruleOf_n hs hR hRO hr hrr) ?_
    refine Ex_astore0 [some (.ref 0), some (.int (J (r))), some (.int (J (k))), some (.int (J (i))), some (.int (J (j))), some (.int (J (o))), some (.int (J (m))), some (.null)] d_to_becomes_5 (Nat.le_of_ble_eq_true rfl) rfl ?_
    refine Ex_aload0 d_to_becomes_7 rfl ?_
    refine Ex_ifnull0 34 d_to_becomes_9 rfl ?_
    refine Ex_iconst d_to_becomes_34 ic_0 ?_
    refine Ex_zreturn d_to_becomes_35 rfl (by decide) ?_
    exact Or.inl ⟨fun z => hrr ⟨z.1, z.2.1⟩, rfl, rfl⟩
theorem to_place_z {S : mj_S} {h : mj_H} (hs : HT h) {K : SK} (hK : KC K h) (hO : KO K) {F : SF} {Y : OW} (hF : FC F Y h) (hFO : FO K.1 F) {f i j k m : Int} (hf : -2147483648 ≤ f ∧ f < 2147483648) (hi : -2147483648 ≤ i ∧ i < 2147483648) (hj : -2147483648 ≤ j ∧ j < 2147483648) (hk : -2147483648 ≤ k ∧ k < 2147483648) (hm : -2147483648 ≤ m ∧ m < 2147483648) : Cl S to_place [.ref 0, .int (J f), .int (J i), .int (J j), .int (J k), .int (J m)] h (Ans (okPc K F f i j k m) (FC F Y) (fun h' => FC (setPl F f.toNat (8 * i.toNat + j.toNat) (pcT K k m)) Y h' ∧ h'.1 = h.1) (WFC Y) h) := by
  show Ex S to_place 0 [some (.ref 0), some (.int (J (f))), some (.int (J (i))), some (.int (J (j))), some (.int (J (k))), some (.int (J (m))), none] [] h _
  have h8 := hFO.1
  have h40 := hO.1
  by_cases hrr : 0 ≤ f ∧ f < F.1
  · obtain ⟨x, b, c, d, hx⟩ := hF.2.2 f.toNat (by omega)
    obtain ⟨hz, ho, hst⟩ := hFO.2.2 f.toNat (by omega)
    refine Ex_aload_n d_to_place_0 rfl ?_
    refine Ex_iload_n d_to_place_1 rfl ?_
    refine Ex_pV1 (v := .ref (x)) d_to_place_2 pk_to_place_366 (t_0 hs) (to_floorOf_z hs hF hFO hrr hx) ?_
    refine Ex_astore [some (.ref 0), some (.int (J (f))), some (.int (J (i))), some (.int (J (j))), some (.int (J (k))), some (.int (J (m))), some (.ref (x))] d_to_place_5 (Nat.le_of_ble_eq_true rfl) rfl ?_
    refine Ex_aload d_to_place_7 rfl ?_
    refine Ex_ifnull d_to_place_9 ?_
    refine Ex_aload d_to_place_12 rfl ?_
    refine Ex_iload_n d_to_place_14 rfl ?_
    refine Ex_iload_n d_to_place_15 rfl ?_
    refine Ex_pV2 (v := .int (bI (decide (0 ≤ i ∧ i < fR F f.toNat ∧ 0 ≤ j ∧ j < fC F f.toNat)))) d_to_place_16 pk_to_place_370 hx.2.1.2.1 (fl_hasPlace_s hFO (by omega) hx hi hj) ?_
    refine Ex_if_neB (decide (0 ≤ i ∧ i < fR F f.toNat ∧ 0 ≤ j ∧ j < fC F f.toNat)) 24 d_to_place_19 rfl rfl (fun hc19 => ?_) (fun hc19 => ?_)
    · rw [decide_eq_true_eq] at hc19
      refine Ex_iload d_to_place_24 rfl ?_
      refine Ex_iconst d_to_place_26 ic_m1 ?_
      refine Ex_icmp_eqZ (k) ((-1)) 37 d_to_place_27 rfl rfl (by decide) (by omega) (by omega) (fun hc27 => ?_) (fun hc27 => ?_)
      · refine Ex_aload d_to_place_37 rfl ?_
        refine Ex_iload_n d_to_place_39 rfl ?_
        refine Ex_iload_n d_to_place_40 rfl ?_
        refine Ex_iload d_to_place_41 rfl ?_
        refine Ex_cV3 d_to_place_43 pk_to_place_371 hx.2.1.2.1 (show Cl S fl_setPlace [.ref x, .int (J i), .int (J j), .int (J (k))] h (fun rv h1 => rv = none ∧ h1 = wI (wI h b (i.toNat * 8 + j.toNat) (J (k))) c (i.toNat * 8 + j.toNat) (-1)) by rw [J_pos (show 0 ≤ i by omega), J_pos (show 0 ≤ j by omega)]; exact fl_setPlace_s hFO (show f.toNat < F.1 by omega) hx (by omega) (by omega) _) ?_
        rintro rv hh ⟨rfl, rfl⟩
        show Ex S to_place 46 [some (.ref 0), some (.int (J (f))), some (.int (J (i))), some (.int (J (j))), some (.int (J (k))), some (.int (J (m))), some (.ref (x))] [] (wI (wI h b (i.toNat * 8 + j.toNat) (J (k))) c (i.toNat * 8 + j.toNat) (-1)) _
        refine Ex_iconst d_to_place_46 ic_1 ?_
        refine Ex_zreturn d_to_place_47 rfl (by decide) ?_
        have hvv : J k = cT (pcT K k m) := by
          unfold pcT
          by_cases hk2 : k = -2
          · rw [if_pos hk2, hk2]; decide
          · rw [if_neg hk2, if_pos (by omega), show k = -1 by omega]; decide
        have z := FC_set hs hF (t := 8 * i.toNat + j.toNat) (show f.toNat < F.1 by omega) (by omega) (pcT K k m) hx (u := (i.toNat * 8 + j.toNat)) (hv := hvv)
        refine Or.inr ⟨⟨by omega, by omega, by omega, by omega, by omega, by omega, by omega⟩, rfl, ⟨?_, rfl⟩, z.2⟩
        exact z.1
      · refine Ex_iload d_to_place_30 rfl ?_
        refine Ex_bipush d_to_place_32 bp_m2 ?_
        refine Ex_icmp_neZ (k) ((-2)) 48 d_to_place_34 rfl rfl (by decide) (by omega) (by omega) (fun hc34 => ?_) (fun hc34 => ?_)
        · refine Ex_aload_n d_to_place_48 rfl ?_
          refine Ex_iload d_to_place_49 rfl ?_
          refine Ex_iload d_to_place_51 rfl ?_
          refine Ex_pV2 (v := .int (bI (decide (0 ≤ k ∧ k < K.1 ∧ 0 ≤ m ∧ m < 8)))) d_to_place_53 pk_to_place_180 (t_0 hs) (to_isKindInMove_s hs hK hO hk hm) ?_
          refine Ex_if_neB (decide (0 ≤ k ∧ k < K.1 ∧ 0 ≤ m ∧ m < 8)) 61 d_to_place_56 rfl rfl (fun hc56 => ?_) (fun hc56 => ?_)
          · rw [decide_eq_true_eq] at hc56
            refine Ex_aload d_to_place_61 rfl ?_
            refine Ex_iload_n d_to_place_63 rfl ?_
            refine Ex_iload_n d_to_place_64 rfl ?_
            refine Ex_bipush d_to_place_65 bp_8 ?_
            refine Ex_iload d_to_place_67 rfl ?_
            refine Ex_imulZ ((8)) (k) d_to_place_69 (by decide) rfl ?_
            rw [show ((J (((8)) * k)) : Int32) = (nI (8 * k.toNat)) from (by rw [J_pos (show 0 ≤ 8 * k by omega)]; congr 1; omega)]
            refine Ex_aload_n d_to_place_70 rfl ?_
            refine Ex_getR (v := .ref 1) d_to_place_71 pf_to_20 rfl (t_0 hs) (r_0_0 hs) ?_
            refine Ex_iload d_to_place_74 rfl ?_
            refine Ex_iload d_to_place_76 rfl ?_
            refine Ex_pV2 (v := .int (nI (kLie K k.toNat m.toNat))) d_to_place_78 pk_to_place_117 (t_1 hs) (show Cl S ki_lies [.ref 1, .int (J k), .int (J m)] h _ by rw [J_pos (show 0 ≤ k by omega), J_pos (show 0 ≤ m by omega)]; exact ki_lies_s hs hK hO (by omega) (by omega)) ?_
            refine Ex_iaddN (8 * k.toNat) (kLie K k.toNat m.toNat) d_to_place_81 rfl rfl ?_
            refine Ex_cV3 d_to_place_82 pk_to_place_371 hx.2.1.2.1 (show Cl S fl_setPlace [.ref x, .int (J i), .int (J j), .int (nI ((8 * k.toNat) + (kLie K k.toNat m.toNat)))] h (fun rv h1 => rv = none ∧ h1 = wI (wI h b (i.toNat * 8 + j.toNat) (nI ((8 * k.toNat) + (kLie K k.toNat m.toNat)))) c (i.toNat * 8 + j.toNat) (-1)) by rw [J_pos (show 0 ≤ i by omega), J_pos (show 0 ≤ j by omega)]; exact fl_setPlace_s hFO (show f.toNat < F.1 by omega) hx (by omega) (by omega) _) ?_
            rintro rv hh ⟨rfl, rfl⟩
            show Ex S to_place 85 [some (.ref 0), some (.int (J (f))), some (.int (J (i))), some (.int (J (j))), some (.int (J (k))), some (.int (J (m))), some (.ref (x))] [] (wI (wI h b (i.toNat * 8 + j.toNat) (nI ((8 * k.toNat) + (kLie K k.toNat m.toNat)))) c (i.toNat * 8 + j.toNat) (-1)) _
            refine Ex_iconst d_to_place_85 ic_1 ?_
            refine Ex_zreturn d_to_place_86 rfl (by decide) ?_
            have z := FC_set hs hF (t := 8 * i.toNat + j.toNat) (show f.toNat < F.1 by omega) (by omega) (some (some (k.toNat, kLie K k.toNat m.toNat))) hx (u := (i.toNat * 8 + j.toNat)) (hv := rfl)
            refine Or.inr ⟨⟨by omega, by omega, by omega, by omega, by omega, by omega, by omega⟩, rfl, ⟨?_, rfl⟩, z.2⟩
            unfold pcT
            rw [if_neg (by omega), if_neg (by omega)]
            exact z.1
          · rw [decide_eq_false_iff_not] at hc56
            refine Ex_iconst d_to_place_59 ic_0 ?_
            refine Ex_zreturn d_to_place_60 rfl (by decide) ?_
            exact Or.inl ⟨by unfold okPc; omega, rfl, rfl⟩
        · refine Ex_aload d_to_place_37 rfl ?_
          refine Ex_iload_n d_to_place_39 rfl ?_
          refine Ex_iload_n d_to_place_40 rfl ?_
          refine Ex_iload d_to_place_41 rfl ?_
          refine Ex_cV3 d_to_place_43 pk_to_place_371 hx.2.1.2.1 (show Cl S fl_setPlace [.ref x, .int (J i), .int (J j), .int (J (k))] h (fun rv h1 => rv = none ∧ h1 = wI (wI h b (i.toNat * 8 + j.toNat) (J (k))) c (i.toNat * 8 + j.toNat) (-1)) by rw [J_pos (show 0 ≤ i by omega), J_pos (show 0 ≤ j by omega)]; exact fl_setPlace_s hFO (show f.toNat < F.1 by omega) hx (by omega) (by omega) _) ?_
          rintro rv hh ⟨rfl, rfl⟩
          show Ex S to_place 46 [some (.ref 0), some (.int (J (f))), some (.int (J (i))), some (.int (J (j))), some (.int (J (k))), some (.int (J (m))), some (.ref (x))] [] (wI (wI h b (i.toNat * 8 + j.toNat) (J (k))) c (i.toNat * 8 + j.toNat) (-1)) _
          refine Ex_iconst d_to_place_46 ic_1 ?_
          refine Ex_zreturn d_to_place_47 rfl (by decide) ?_
          have hvv : J k = cT (pcT K k m) := by
            unfold pcT
            by_cases hk2 : k = -2
            · rw [if_pos hk2, hk2]; decide
            · rw [if_neg hk2, if_pos (by omega), show k = -1 by omega]; decide
          have z := FC_set hs hF (t := 8 * i.toNat + j.toNat) (show f.toNat < F.1 by omega) (by omega) (pcT K k m) hx (u := (i.toNat * 8 + j.toNat)) (hv := hvv)
          refine Or.inr ⟨⟨by omega, by omega, by omega, by omega, by omega, by omega, by omega⟩, rfl, ⟨?_, rfl⟩, z.2⟩
          exact z.1
    · rw [decide_eq_false_iff_not] at hc19
      refine Ex_iconst d_to_place_22 ic_0 ?_
      refine Ex_zreturn d_to_place_23 rfl (by decide) ?_
      exact Or.inl ⟨by unfold okPc; omega, rfl, rfl⟩
  · refine Ex_aload_n d_to_place_0 rfl ?_
    refine Ex_iload_n d_to_place_1 rfl ?_
    refine Ex_pV1 (v := .null) d_to_place_2 pk_to_place_366 (t_0 hs) (to_floorOf_n hs hF hFO hf hrr) ?_
    refine Ex_astore0 [some (.ref 0), some (.int (J (f))), some (.int (J (i))), some (.int (J (j))), some (.int (J (k))), some (.int (J (m))), some (.null)] d_to_place_5 (Nat.le_of_ble_eq_true rfl) rfl ?_
    refine Ex_aload0 d_to_place_7 rfl ?_
    refine Ex_ifnull0 22 d_to_place_9 rfl ?_
    refine Ex_iconst d_to_place_22 ic_0 ?_
    refine Ex_zreturn d_to_place_23 rfl (by decide) ?_
    exact Or.inl ⟨fun z => hrr ⟨z.1, z.2.1⟩, rfl, rfl⟩
theorem to_stock_z {S : mj_S} {h : mj_H} (hs : HT h) {K : SK} (hK : KC K h) (hO : KO K) {F : SF} {Y : OW} (hF : FC F Y h) (hFO : FO K.1 F) {f k n : Int} (hf : -2147483648 ≤ f ∧ f < 2147483648) (hk : -2147483648 ≤ k ∧ k < 2147483648) (hn : -2147483648 ≤ n ∧ n < 2147483648) : Cl S to_stock [.ref 0, .int (J f), .int (J k), .int (J n)] h (Ans (okSk K F f k n) (FC F Y) (fun h' => FC (setSt F f.toNat k.toNat n.toNat) Y h' ∧ h'.1 = h.1) (WFC Y) h) := by
  show Ex S to_stock 0 [some (.ref 0), some (.int (J (f))), some (.int (J (k))), some (.int (J (n))), none] [] h _
  have h8 := hFO.1
  have h40 := hO.1
  by_cases hrr : 0 ≤ f ∧ f < F.1
  · obtain ⟨x, b, c, d, hx⟩ := hF.2.2 f.toNat (by omega)
    obtain ⟨hz, ho, hst⟩ := hFO.2.2 f.toNat (by omega)
    refine Ex_aload_n d_to_stock_0 rfl ?_
    refine Ex_iload_n d_to_stock_1 rfl ?_
    refine Ex_pV1 (v := .ref (x)) d_to_stock_2 pk_to_stock_366 (t_0 hs) (to_floorOf_z hs hF hFO hrr hx) ?_
    refine Ex_astore [some (.ref 0), some (.int (J (f))), some (.int (J (k))), some (.int (J (n))), some (.ref (x))] d_to_stock_5 (Nat.le_of_ble_eq_true rfl) rfl ?_
    refine Ex_aload d_to_stock_7 rfl ?_
    refine Ex_ifnull d_to_stock_9 ?_
    refine Ex_aload_n d_to_stock_12 rfl ?_
    refine Ex_getR (v := .ref 1) d_to_stock_13 pf_to_20 rfl (t_0 hs) (r_0_0 hs) ?_
    refine Ex_iload_n d_to_stock_16 rfl ?_
    refine Ex_pV1 (v := .int (bI (decide (0 ≤ k ∧ k < K.1)))) d_to_stock_17 pk_to_stock_110 (t_1 hs) (ki_has_s hs hK hO hk) ?_
    refine Ex_if_eqB (decide (0 ≤ k ∧ k < K.1)) 33 d_to_stock_20 rfl rfl (fun hc20 => ?_) (fun hc20 => ?_)
    · rw [decide_eq_false_iff_not] at hc20
      refine Ex_iconst d_to_stock_33 ic_0 ?_
      refine Ex_zreturn d_to_stock_34 rfl (by decide) ?_
      exact Or.inl ⟨by unfold okSk; omega, rfl, rfl⟩
    · rw [decide_eq_true_eq] at hc20
      refine Ex_iload_n d_to_stock_23 rfl ?_
      refine Ex_if_ltZ (n) 33 d_to_stock_24 rfl rfl (by omega) (fun hc24 => ?_) (fun hc24 => ?_)
      · refine Ex_iconst d_to_stock_33 ic_0 ?_
        refine Ex_zreturn d_to_stock_34 rfl (by decide) ?_
        exact Or.inl ⟨by unfold okSk; omega, rfl, rfl⟩
      · refine Ex_iload_n d_to_stock_27 rfl ?_
        refine Ex_bipush d_to_stock_28 bp_99 ?_
        refine Ex_icmp_leZ (n) ((99)) 35 d_to_stock_30 rfl rfl (by decide) (by omega) (by omega) (fun hc30 => ?_) (fun hc30 => ?_)
        · refine Ex_aload d_to_stock_35 rfl ?_
          refine Ex_iload_n d_to_stock_37 rfl ?_
          refine Ex_iload_n d_to_stock_38 rfl ?_
          refine Ex_cV2 d_to_stock_39 pk_to_stock_374 hx.2.1.2.1 (show Cl S fl_setStock [.ref x, .int (J k), .int (J n)] h (fun rv h1 => rv = none ∧ h1 = wI h d k.toNat (J n)) by rw [J_pos (show 0 ≤ k by omega)]; exact fl_setStock_s hFO (show f.toNat < F.1 by omega) hx (by omega) _) ?_
          rintro rv hh ⟨rfl, rfl⟩
          show Ex S to_stock 42 [some (.ref 0), some (.int (J (f))), some (.int (J (k))), some (.int (J (n))), some (.ref (x))] [] (wI h d k.toNat (J n)) _
          refine Ex_iconst d_to_stock_42 ic_1 ?_
          refine Ex_zreturn d_to_stock_43 rfl (by decide) ?_
          obtain ⟨n1, n2, n3, n4, n5, n6⟩ := Fl_ne hx
          obtain ⟨⟨⟨a1, a2⟩, ⟨a3, a4⟩, ⟨a5, a6⟩, a7, a8⟩, ⟨b1, b2, b3, b4, b5, b6, b7, b8⟩, ⟨c1, c2⟩, c3, c4⟩ := id hx
          have f1 : Fr (Wfb Y f.toNat) h (wI h d k.toNat (J n)) := Fr.sI Fr.rf ⟨a7, Or.inr (Or.inr a8)⟩
          refine Or.inr ⟨⟨by omega, by omega, by omega, by omega, by omega, by omega⟩, rfl, ⟨FC_upd hs hF (f := f.toNat) rfl rfl (fun q hq => ⟨rfl, rfl, rfl, rfl, if_neg hq⟩) f1 ⟨x, b, c, d, hx.1, hx.2.1, ⟨?_, ?_⟩, fun k2 hk2 => ?_, fun k2 hk2 => ?_⟩, rfl⟩, f1.mono Wfb_C⟩
          · rw [mI_oth (Or.inl n3)]; exact c1
          · rw [mI_oth (Or.inl n3)]; exact c2
          · rw [mI_oth (Or.inl n5), mI_oth (Or.inl n6)]; exact c3 k2 hk2
          · show _ = nI (va_up (fS F) f.toNat (va_up (fS F f.toNat) k.toNat n.toNat) f.toNat k2)
            rw [up2]
            by_cases hk3 : k2 = k.toNat
            · rw [if_pos ⟨rfl, hk3⟩, hk3, mI_self, J_pos (by omega)]
            · rw [if_neg (fun z => hk3 z.2), mI_oth (Or.inr hk3)]
              exact c4 k2 hk2
        · refine Ex_iconst d_to_stock_33 ic_0 ?_
          refine Ex_zreturn d_to_stock_34 rfl (by decide) ?_
          exact Or.inl ⟨by unfold okSk; omega, rfl, rfl⟩
  · refine Ex_aload_n d_to_stock_0 rfl ?_
    refine Ex_iload_n d_to_stock_1 rfl ?_
    refine Ex_pV1 (v := .null) d_to_stock_2 pk_to_stock_366 (t_0 hs) (to_floorOf_n hs hF hFO hf hrr) ?_
    refine Ex_astore0 [some (.ref 0), some (.int (J (f))), some (.int (J (k))), some (.int (J (n))), some (.null)] d_to_stock_5 (Nat.le_of_ble_eq_true rfl) rfl ?_
    refine Ex_aload0 d_to_stock_7 rfl ?_
    refine Ex_ifnull0 33 d_to_stock_9 rfl ?_
    refine Ex_iconst d_to_stock_33 ic_0 ?_
    refine Ex_zreturn d_to_stock_34 rfl (by decide) ?_
    exact Or.inl ⟨fun z => hrr ⟨z.1, z.2.1⟩, rfl, rfl⟩
theorem to_grow_z {S : mj_S} {h : mj_H} (hs : HT h) {K : SK} (hK : KC K h) (hO : KO K) {R : SR} {Y : OW} (hR : RuC R Y h) (hRO : RO K.1 R) {P : SP} (hP : PC P Y h) (hQ : PO K.1 P) {p r w : Int} (hp : -2147483648 ≤ p ∧ p < 2147483648) (hr : -2147483648 ≤ r ∧ r < 2147483648) (hw : -2147483648 ≤ w ∧ w < 2147483648) : Cl S to_grow [.ref 0, .int (J p), .int (J r), .int (J w)] h (AnsN (okGr K R P p r w) (pNp P) (NC (grP P (lvG K R P p.toNat r.toNat w.toNat)) Y (2 + gN (lvG K R P p.toNat r.toNat w.toNat)) (63 + 60 * gN (lvG K R P p.toNat r.toNat w.toNat)) h) (WPC Y) h) := by
  show Ex S to_grow 0 [some (.ref 0), some (.int (J (p))), some (.int (J (r))), some (.int (J (w))), none, none, none, none, none, none] [] h _
  have hnp := hQ.2.2.1
  have hmd : pMd P ≤ 6000 := hQ.1
  have h8 := hRO.1
  by_cases hpp : 0 ≤ p ∧ p < pNp P
  · by_cases hrr : 0 ≤ r ∧ r < R.1
    · obtain ⟨a, b, c, d, hx9⟩ := hR.2 r.toNat (by omega)
      obtain ⟨hz1, hz2⟩ := hRO.2 r.toNat (by omega)
      obtain ⟨x, y, hx⟩ := hP.2.1.2 p.toNat (by omega)
      have hB := hx.2.2
      have hok := hQ.2.2.2.1 p.toNat (by omega)
      have hlen := hok.1
      have hx74 := hx.1.1
      have hy74 := hx.1.2.1
      refine Ex_aload_n d_to_grow_0 rfl ?_
      refine Ex_iload_n d_to_grow_1 rfl ?_
      refine Ex_pV1 (v := .ref (x)) d_to_grow_2 pk_to_grow_139 (t_0 hs) (to_patternOf_z hs hP hQ hpp hx) ?_
      refine Ex_astore [some (.ref 0), some (.int (J (p))), some (.int (J (r))), some (.int (J (w))), some (.ref (x)), none, none, none, none, none] d_to_grow_5 (Nat.le_of_ble_eq_true rfl) rfl ?_
      refine Ex_aload_n d_to_grow_7 rfl ?_
      refine Ex_iload_n d_to_grow_8 rfl ?_
      refine Ex_pV1 (v := .ref (a)) d_to_grow_9 pk_to_grow_269 (t_0 hs) (to_ruleOf_z hs hR hRO hrr hx9) ?_
      refine Ex_astore [some (.ref 0), some (.int (J (p))), some (.int (J (r))), some (.int (J (w))), some (.ref (x)), some (.ref (a)), none, none, none, none] d_to_grow_12 (Nat.le_of_ble_eq_true rfl) rfl ?_
      refine Ex_aload d_to_grow_14 rfl ?_
      refine Ex_ifnull d_to_grow_16 ?_
      refine Ex_aload d_to_grow_19 rfl ?_
      refine Ex_ifnull d_to_grow_21 ?_
      refine Ex_iload_n d_to_grow_24 rfl ?_
      refine Ex_if_ltZ (w) 33 d_to_grow_25 rfl rfl (by omega) (fun hc25 => ?_) (fun hc25 => ?_)
      · refine Ex_iconst d_to_grow_33 ic_m1 ?_
        refine Ex_ireturn d_to_grow_34 rfl ?_
        refine Or.inl ⟨?_, rfl, rfl⟩
        rintro ⟨y1, y2, y3, y4, y5, y6, y7, y8, y9⟩
        first
          | omega
          | (have y9 : gN (lvG K R P p.toNat r.toNat s) ≤ 6000 - pMd P := y9; omega)
          | (have y10 := hgi.mp y8; exact absurd (hv2.mpr y10.2) (by rw [hc107]; decide))
          | (have y10 := hgi.mp y8; exact absurd (hv1.mpr y10.1) (by rw [hc95]; decide))
      · refine Ex_iload_n d_to_grow_28 rfl ?_
        refine Ex_iconst d_to_grow_29 ic_5 ?_
        refine Ex_icmp_leZ (w) ((5)) 35 d_to_grow_30 rfl rfl (by decide) (by omega) (by omega) (fun hc30 => ?_) (fun hc30 => ?_)
        · obtain ⟨s, rfl⟩ : ∃ s : Nat, w = (s : Int) := ⟨w.toNat, by omega⟩
          simp only [← nIJ]
          have hsR := pw_b (a := rR R r.toNat) (by omega) (show s ≤ 5 by omega)
          have hsC := pw_b (a := rC R r.toNat) (by omega) (show s ≤ 5 by omega)
          have hL0 := lv0_ok hQ hok
          have hb60 : (pPat P p.toNat).length * rR R r.toNat ^ s ≤ 60 * 1024 := mul_le hlen hsR.2
          have hgi := gr_iff (K := K) hRO (show r.toNat < R.1 by omega) hL0 s
          obtain ⟨q1, q2, q3⟩ := lv_sz K R r.toNat (lv0 P (pPat P p.toNat)) s
          have q1 : gN (lvG K R P p.toNat r.toNat s) = (pPat P p.toNat).length * rR R r.toNat ^ s := q1
          refine Ex_aload d_to_grow_35 rfl ?_
          refine Ex_getIE (y := (nI (rR R r.toNat))) d_to_grow_37 pf_to_279 rfl hx9.2.1.2.1 hx9.2.2.1 ?_
          refine Ex_iload_n d_to_grow_40 rfl ?_
          refine Ex_pS2 (v := .int (nI ((rR R r.toNat) ^ s))) d_to_grow_41 pk_to_grow_280 (to_power_s (by omega) (by omega)) ?_
          refine Ex_istore [some (.ref 0), some (.int (J (p))), some (.int (J (r))), some (.int (nI (s))), some (.ref (x)), some (.ref (a)), some (.int (nI ((rR R r.toNat) ^ s))), none, none, none] d_to_grow_44 (Nat.le_of_ble_eq_true rfl) rfl ?_
          refine Ex_aload d_to_grow_46 rfl ?_
          refine Ex_getIE (y := (nI (rC R r.toNat))) d_to_grow_48 pf_to_283 rfl hx9.2.1.2.1 hx9.2.2.2.1 ?_
          refine Ex_iload_n d_to_grow_51 rfl ?_
          refine Ex_pS2 (v := .int (nI ((rC R r.toNat) ^ s))) d_to_grow_52 pk_to_grow_280 (to_power_s (by omega) (by omega)) ?_
          refine Ex_istore [some (.ref 0), some (.int (J (p))), some (.int (J (r))), some (.int (nI (s))), some (.ref (x)), some (.ref (a)), some (.int (nI ((rR R r.toNat) ^ s))), some (.int (nI ((rC R r.toNat) ^ s))), none, none] d_to_grow_55 (Nat.le_of_ble_eq_true rfl) rfl ?_
          refine Ex_aload_n d_to_grow_57 rfl ?_
          refine Ex_getIE (y := (nI (pNp P))) d_to_grow_58 pf_to_128 rfl (t_0 hs) hP.2.1.1 ?_
          refine Ex_bipush d_to_grow_61 bp_16 ?_
          refine Ex_icmp_geN (pNp P) (16) 84 d_to_grow_63 rfl rfl rfl (by omega) (by omega) (fun hc63 => ?_) (fun hc63 => ?_)
          · refine Ex_iconst d_to_grow_84 ic_m1 ?_
            refine Ex_ireturn d_to_grow_85 rfl ?_
            refine Or.inl ⟨?_, rfl, rfl⟩
            rintro ⟨y1, y2, y3, y4, y5, y6, y7, y8, y9⟩
            first
              | omega
              | (have y9 : gN (lvG K R P p.toNat r.toNat s) ≤ 6000 - pMd P := y9; omega)
              | (have y10 := hgi.mp y8; exact absurd (hv2.mpr y10.2) (by rw [hc107]; decide))
              | (have y10 := hgi.mp y8; exact absurd (hv1.mpr y10.1) (by rw [hc95]; decide))
          · refine Ex_aload d_to_grow_66 rfl ?_
            refine Ex_getIE (y := (nI ((pPat P p.toNat).length))) d_to_grow_68 pf_to_143 rfl hB.1.1 hB.2.1 ?_
            refine Ex_iload d_to_grow_71 rfl ?_
            refine Ex_imulN ((pPat P p.toNat).length) ((rR R r.toNat) ^ s) d_to_grow_73 rfl rfl ?_
            refine Ex_aload_n d_to_grow_74 rfl ?_
            refine Ex_getR (v := .ref 21) d_to_grow_75 pf_to_42 rfl (t_0 hs) (r_0_1 hs) ?_
            refine Ex_pV0 (v := .int (nI (6000 - pMd P))) d_to_grow_78 pk_to_grow_149 (t_21 hs) (rs_left_s hs hP.1 hQ) ?_
            refine Ex_icmp_leN (((pPat P p.toNat).length) * ((rR R r.toNat) ^ s)) (6000 - pMd P) 86 d_to_grow_81 rfl rfl rfl (by omega) (by omega) (fun hc81 => ?_) (fun hc81 => ?_)
            · refine Ex_aload d_to_grow_86 rfl ?_
              refine Ex_iload d_to_grow_88 rfl ?_
              refine Ex_iload d_to_grow_90 rfl ?_
              refine Ex_cV2 d_to_grow_92 pk_to_grow_284 hB.1.1 (pa_mayGrow_s hs hP.1 hQ hB hok (Src_0 P (pPat P p.toNat)) (D := rR R r.toNat ^ s) (A := rC R r.toNat ^ s) (by omega) (by omega)) ?_
              rintro rv hh ⟨hhe, v1, rfl, hv1⟩
              rw [hhe]
              show Ex S to_grow 95 [some (.ref 0), some (.int (J (p))), some (.int (J (r))), some (.int (nI (s))), some (.ref (x)), some (.ref (a)), some (.int (nI ((rR R r.toNat) ^ s))), some (.int (nI ((rC R r.toNat) ^ s))), none, none] [.int (bI (v1))] h _
              refine Ex_if_eqB (v1) 110 d_to_grow_95 rfl rfl (fun hc95 => ?_) (fun hc95 => ?_)
              · refine Ex_iconst d_to_grow_110 ic_m1 ?_
                refine Ex_ireturn d_to_grow_111 rfl ?_
                refine Or.inl ⟨?_, rfl, rfl⟩
                rintro ⟨y1, y2, y3, y4, y5, y6, y7, y8, y9⟩
                first
                  | omega
                  | (have y9 : gN (lvG K R P p.toNat r.toNat s) ≤ 6000 - pMd P := y9; omega)
                  | (have y10 := hgi.mp y8; exact absurd (hv2.mpr y10.2) (by rw [hc107]; decide))
                  | (have y10 := hgi.mp y8; exact absurd (hv1.mpr y10.1) (by rw [hc95]; decide))
              · refine Ex_aload_n d_to_grow_98 rfl ?_
                refine Ex_aload d_to_grow_99 rfl ?_
                refine Ex_aload d_to_grow_101 rfl ?_
                refine Ex_iload_n d_to_grow_103 rfl ?_
                refine Ex_cV3 d_to_grow_104 pk_to_grow_287 (t_0 hs) (to_growsStraight_s hs hK hO hRO (show r.toNat < R.1 by omega) hx9 hP.1 hQ hB hok (Src_0 P (pPat P p.toNat)) (show s ≤ 5 by omega)) ?_
                rintro rv hh2 ⟨hhe2, v2, rfl, hv2⟩
                rw [hhe2]
                show Ex S to_grow 107 [some (.ref 0), some (.int (J (p))), some (.int (J (r))), some (.int (nI (s))), some (.ref (x)), some (.ref (a)), some (.int (nI ((rR R r.toNat) ^ s))), some (.int (nI ((rC R r.toNat) ^ s))), none, none] [.int (bI (v2))] h _
                refine Ex_if_neB (v2) 112 d_to_grow_107 rfl rfl (fun hc107 => ?_) (fun hc107 => ?_)
                · have hokA : ∀ t, t < s → okLv R r.toNat (lvN K R r.toNat (lv0 P (pPat P p.toNat)) t) := hgi.mpr ⟨hv1.mp hc95, hv2.mp hc107⟩
                  refine Ex_new (ci := 6) d_to_grow_112 rfl pc_to_46 ?_
                  have hs1 : HT (mNew h 16 3) := HT_new hs _ _
                  refine Ex_dup rfl d_to_grow_115 ?_
                  refine Ex_aload_n d_to_grow_116 rfl ?_
                  refine Ex_getR (v := .ref 21) d_to_grow_117 pf_to_42 rfl (t_0 hs1) (r_0_1 hs1) ?_
                  refine Ex_cI1 d_to_grow_120 pk_to_grow_132 (pa_init_s (h := mNew h 16 3) (a := mN h) (mT_new_self h 16 3)) ?_
                  rintro rv hh3 ⟨rfl, rfl⟩
                  rw [mN_new h 16 3]
                  obtain ⟨hsN, fN, hBN, gN0⟩ := hNP_s hs
                  obtain ⟨oY, hYN⟩ := yNP_s hs (Y := Y) (p := pNp P)
                  have hPN : PC P (yNP Y h (pNp P)) (hNP h) := PC_fr hs fN Wal_P oY hP
                  show Ex S to_grow 123 [some (.ref 0), some (.int (J (p))), some (.int (J (r))), some (.int (nI (s))), some (.ref (x)), some (.ref (a)), some (.int (nI ((rR R r.toNat) ^ s))), some (.int (nI ((rC R r.toNat) ^ s))), none, none] [.ref ((mN h))] (hNP h) _
                  refine Ex_astore [some (.ref 0), some (.int (J (p))), some (.int (J (r))), some (.int (nI (s))), some (.ref (x)), some (.ref (a)), some (.int (nI ((rR R r.toNat) ^ s))), some (.int (nI ((rC R r.toNat) ^ s))), some (.ref ((mN h))), none] d_to_grow_123 (Nat.le_of_ble_eq_true rfl) rfl ?_
                  refine Ex_iconst d_to_grow_125 ic_0 ?_
                  refine Ex_istore [some (.ref 0), some (.int (J (p))), some (.int (J (r))), some (.int (nI (s))), some (.ref (x)), some (.ref (a)), some (.int (nI ((rR R r.toNat) ^ s))), some (.int (nI ((rC R r.toNat) ^ s))), some (.ref ((mN h))), some (.int (0))] d_to_grow_126 (Nat.le_of_ble_eq_true rfl) rfl ?_
                  have lx := mT_lt hx.2.2.1.1
                  have ly := mT_lt hx.2.2.1.2.2.2
                  have la := mT_lt hx9.2.1.2.1
                  have lb := mT_lt hx9.2.1.2.2.2.2.2.1
                  refine to_grow_L hsN (KC_fr hs fN (by intro u k; unfold WKC Wal; omega) hK) hO hRO (show r.toNat < R.1 by omega) (RuC1_fr hs fN (by unfold Wal; omega) (fun k => by have := hx9.1.1.1; unfold Wal; omega) (fun k => by have := hx9.1.2.1.1; unfold Wal; omega) oY hx9) hPN hQ (show p.toNat < pNp P by omega) (PaC1_fr hs fN (by unfold Wal; omega) (fun k => by unfold Wal; omega) (fun k => by unfold Wal; omega) oY hx) (s := s) (by omega) hokA (by omega) hYN (Nat.le_refl _) ⟨by omega, by omega, by omega, by omega, by omega, by omega, by omega, by omega⟩ ⟨hBN.1.1, hBN.1.2.2.2⟩ (fun h1 hI => ?_) ((pPat P p.toNat).length * (rR R r.toNat) ^ s) 0 (by omega) (hNP h) ⟨_, OwE.rf, hPN, hBN, Fr.rf, rfl, Nat.le_refl _⟩
                  obtain ⟨Y1, oY1, hP1, hB2, f1, g1⟩ := hI
                  have hs1 : HT h1 := f1.ht hsN (fun q hq z => z.elim (WRx_st _ q hq) (Wab_st hYN.1 hYN.2.1 q hq))
                  obtain ⟨g2, g3, g4, g5⟩ := grR_s P (lvN K R r.toNat (lv0 P (pPat P p.toNat)) s) ((pPat P p.toNat).length * rR R r.toNat ^ s)
                  refine Ex_aload_n d_to_grow_165 rfl ?_
                  refine Ex_aload d_to_grow_166 rfl ?_
                  refine Ex_cV1 d_to_grow_168 pk_to_grow_135 (t_0 hs1) (to_keep_s hs1 hP1.2.1 (by rw [g3]; omega) hB2 ⟨hYN.1, hYN.2.1, by rw [g3, oY1 _ (mT_lt hBN.1.1)]; exact hYN.2.2.1, by rw [g3, oY1 _ (mT_lt hBN.1.2.2.2)]; exact hYN.2.2.2⟩) ?_
                  rintro rv h9 ⟨rfl, hK9, f9⟩
                  have f9 : Fr Wkp _ h9 := f9
                  rw [g3]
                  show Ex S to_grow 171 [some (.ref 0), some (.int (J (p))), some (.int (J (r))), some (.int (nI (s))), some (.ref (x)), some (.ref (a)), some (.int (nI ((rR R r.toNat) ^ s))), some (.int (nI ((rC R r.toNat) ^ s))), some (.ref ((mN h))), some (.int (nI ((pPat P p.toNat).length * (rR R r.toNat) ^ s)))] [.int (nI (pNp P))] h9 _
                  refine Ex_ireturn d_to_grow_171 rfl ?_
                  have hn74 := HT_n hs
                  refine Or.inr ⟨⟨by omega, by omega, by omega, by omega, by omega, by omega, by omega, hokA, show gN (lvG K R P p.toNat r.toNat s) ≤ _ by rw [q1]; omega⟩, rfl, ⟨⟨Y1, (fun k hk => by rw [oY1 k (by have := fN.le; omega)]; exact oY k hk), ?_⟩, ?_⟩, ?_⟩
                  · have z := PC_kp hs1 hP1 f9 hK9
                    show PC (newPat (grR P (lvG K R P p.toNat r.toNat s) (gN (lvG K R P p.toNat r.toNat s))) (rgL (pMd P) (gN (lvG K R P p.toNat r.toNat s)))) Y1 h9
                    rw [q1]
                    exact z
                  · show Gr (2 + gN (lvG K R P p.toNat r.toNat s)) (63 + 60 * gN (lvG K R P p.toNat r.toNat s)) h h9
                    rw [q1]
                    exact (gN0.tr g1).tr (Gr.of f9 (by unfold Wkp; omega))
                  · refine ((fN.mono Wal_C).trN f1 (by omega) (fun u k hu w => ?_)).tr (f9.mono Wkp_C)
                    rcases w with w | w
                    · refine WRx_C u k ?_
                      rcases w with w | w
                      · exact Or.inl w
                      · exact Or.inr ⟨w.1, by rw [← oY u hu]; exact w.2⟩
                    · exact absurd w (by unfold Wab; omega)
                · refine Ex_iconst d_to_grow_110 ic_m1 ?_
                  refine Ex_ireturn d_to_grow_111 rfl ?_
                  refine Or.inl ⟨?_, rfl, rfl⟩
                  rintro ⟨y1, y2, y3, y4, y5, y6, y7, y8, y9⟩
                  first
                    | omega
                    | (have y9 : gN (lvG K R P p.toNat r.toNat s) ≤ 6000 - pMd P := y9; omega)
                    | (have y10 := hgi.mp y8; exact absurd (hv2.mpr y10.2) (by rw [hc107]; decide))
                    | (have y10 := hgi.mp y8; exact absurd (hv1.mpr y10.1) (by rw [hc95]; decide))
            · refine Ex_iconst d_to_grow_84 ic_m1 ?_
              refine Ex_ireturn d_to_grow_85 rfl ?_
              refine Or.inl ⟨?_, rfl, rfl⟩
              rintro ⟨y1, y2, y3, y4, y5, y6, y7, y8, y9⟩
              first
                | omega
                | (have y9 : gN (lvG K R P p.toNat r.toNat s) ≤ 6000 - pMd P := y9; omega)
                | (have y10 := hgi.mp y8; exact absurd (hv2.mpr y10.2) (by rw [hc107]; decide))
                | (have y10 := hgi.mp y8; exact absurd (hv1.mpr y10.1) (by rw [hc95]; decide))
        · refine Ex_iconst d_to_grow_33 ic_m1 ?_
          refine Ex_ireturn d_to_grow_34 rfl ?_
          refine Or.inl ⟨?_, rfl, rfl⟩
          rintro ⟨y1, y2, y3, y4, y5, y6, y7, y8, y9⟩
          first
            | omega
            | (have y9 : gN (lvG K R P p.toNat r.toNat s) ≤ 6000 - pMd P := y9; omega)
            | (have y10 := hgi.mp y8; exact absurd (hv2.mpr y10.2) (by rw [hc107]; decide))
            | (have y10 := hgi.mp y8; exact absurd (hv1.mpr y10.1) (by rw [hc95]; decide))
    · obtain ⟨x, y, hx⟩ := hP.2.1.2 p.toNat (by omega)
      have hB := hx.2.2
      have hok := hQ.2.2.2.1 p.toNat (by omega)
      have hlen := hok.1
      have hx74 := hx.1.1
      have hy74 := hx.1.2.1
      refine Ex_aload_n d_to_grow_0 rfl ?_
      refine Ex_iload_n d_to_grow_1 rfl ?_
      refine Ex_pV1 (v := .ref (x)) d_to_grow_2 pk_to_grow_139 (t_0 hs) (to_patternOf_z hs hP hQ hpp hx) ?_
      refine Ex_astore [some (.ref 0), some (.int (J (p))), some (.int (J (r))), some (.int (J (w))), some (.ref (x)), none, none, none, none, none] d_to_grow_5 (Nat.le_of_ble_eq_true rfl) rfl ?_
      refine Ex_aload_n d_to_grow_7 rfl ?_
      refine Ex_iload_n d_to_grow_8 rfl ?_
      refine Ex_pV1 (v := .null) d_to_grow_9 pk_to_grow_269 (t_0 hs) (to_ruleOf_n hs hR hRO hr hrr) ?_
      refine Ex_astore0 [some (.ref 0), some (.int (J (p))), some (.int (J (r))), some (.int (J (w))), some (.ref (x)), some (.null), none, none, none, none] d_to_grow_12 (Nat.le_of_ble_eq_true rfl) rfl ?_
      refine Ex_aload d_to_grow_14 rfl ?_
      refine Ex_ifnull d_to_grow_16 ?_
      refine Ex_aload0 d_to_grow_19 rfl ?_
      refine Ex_ifnull0 33 d_to_grow_21 rfl ?_
      refine Ex_iconst d_to_grow_33 ic_m1 ?_
      refine Ex_ireturn d_to_grow_34 rfl ?_
      exact Or.inl ⟨fun z => by omega, rfl, rfl⟩
  · by_cases hrr : 0 ≤ r ∧ r < R.1
    · obtain ⟨a, b, c, d, hx9⟩ := hR.2 r.toNat (by omega)
      refine Ex_aload_n d_to_grow_0 rfl ?_
      refine Ex_iload_n d_to_grow_1 rfl ?_
      refine Ex_pV1 (v := .null) d_to_grow_2 pk_to_grow_139 (t_0 hs) (to_patternOf_n hs hP hQ hp hpp) ?_
      refine Ex_astore0 [some (.ref 0), some (.int (J (p))), some (.int (J (r))), some (.int (J (w))), some (.null), none, none, none, none, none] d_to_grow_5 (Nat.le_of_ble_eq_true rfl) rfl ?_
      refine Ex_aload_n d_to_grow_7 rfl ?_
      refine Ex_iload_n d_to_grow_8 rfl ?_
      refine Ex_pV1 (v := .ref (a)) d_to_grow_9 pk_to_grow_269 (t_0 hs) (to_ruleOf_z hs hR hRO hrr hx9) ?_
      refine Ex_astore [some (.ref 0), some (.int (J (p))), some (.int (J (r))), some (.int (J (w))), some (.null), some (.ref (a)), none, none, none, none] d_to_grow_12 (Nat.le_of_ble_eq_true rfl) rfl ?_
      refine Ex_aload0 d_to_grow_14 rfl ?_
      refine Ex_ifnull0 33 d_to_grow_16 rfl ?_
      refine Ex_iconst d_to_grow_33 ic_m1 ?_
      refine Ex_ireturn d_to_grow_34 rfl ?_
      exact Or.inl ⟨fun z => by omega, rfl, rfl⟩
    · refine Ex_aload_n d_to_grow_0 rfl ?_
      refine Ex_iload_n d_to_grow_1 rfl ?_
      refine Ex_pV1 (v := .null) d_to_grow_2 pk_to_grow_139 (t_0 hs) (to_patternOf_n hs hP hQ hp hpp) ?_
      refine Ex_astore0 [some (.ref 0), some (.int (J (p))), some (.int (J (r))), some (.int (J (w))), some (.null), none, none, none, none, none] d_to_grow_5 (Nat.le_of_ble_eq_true rfl) rfl ?_
      refine Ex_aload_n d_to_grow_7 rfl ?_
      refine Ex_iload_n d_to_grow_8 rfl ?_
      refine Ex_pV1 (v := .null) d_to_grow_9 pk_to_grow_269 (t_0 hs) (to_ruleOf_n hs hR hRO hr hrr) ?_
      refine Ex_astore0 [some (.ref 0), some (.int (J (p))), some (.int (J (r))), some (.int (J (w))), some (.null), some (.null), none, none, none, none] d_to_grow_12 (Nat.le_of_ble_eq_true rfl) rfl ?_
      refine Ex_aload0 d_to_grow_14 rfl ?_
      refine Ex_ifnull0 33 d_to_grow_16 rfl ?_
      refine Ex_iconst d_to_grow_33 ic_m1 ?_
      refine Ex_ireturn d_to_grow_34 rfl ?_
      exact Or.inl ⟨fun z => by omega, rfl, rfl⟩
def AnsG (c : Prop) (v : Nat) (R' : mj_H → Prop) (W W0 : Nat → Nat → Prop) (h : mj_H) : Option Value → mj_H → Prop := fun r h' => (¬ c ∧ r = some (.int (-1)) ∧ Fr W0 h h') ∨ (c ∧ r = some (.int (nI v)) ∧ R' h' ∧ Fr W h h')
theorem rm_grow_z {S : mj_S} {h : mj_H} (hs : HT h) {K : SK} (hK : KM K h) (hO : KO K) {R : SR} (hR : RM R h) (hRO : RO K.1 R) {P : SP} (hP : PM P h) (hQ : PO K.1 P) {p r w : Int} (hp : -2147483648 ≤ p ∧ p < 2147483648) (hr : -2147483648 ≤ r ∧ r < 2147483648) (hw : -2147483648 ≤ w ∧ w < 2147483648) : Cl S rm_grow [.ref 38, .int (J (p)), .int (J (r)), .int (J (w))] h (AnsG (okGr K R P p r w) (pNp P) (PM (grP P (lvG K R P p.toNat r.toNat w.toNat))) WgM Wgw h) := by
  show Ex S rm_grow 0 [some (.ref 38), some (.int (J (p))), some (.int (J (r))), some (.int (J (w))), none, none, none, none, none, none, none] [] h _
  have hnp := hQ.2.2.1
  have hmd : pMd P ≤ 6000 := hQ.1
  have h8 := hRO.1
  refine Ex_aload_n d_rm_grow_0 rfl ?_
  refine Ex_iload_n d_rm_grow_1 rfl ?_
  refine Ex_pV1 (v := .int (bI (decide (0 ≤ p ∧ p < pNp P)))) d_rm_grow_2 pk_rm_grow_187 (t_38 hs) (rm_isPattern_s hs hP.2.1 hQ.2.2.1 hp) ?_
  refine Ex_if_eqB (decide (0 ≤ p ∧ p < pNp P)) 34 d_rm_grow_5 rfl rfl (fun hc5 => ?_) (fun hc5 => ?_)
  · rw [decide_eq_false_iff_not] at hc5
    refine Ex_iconst d_rm_grow_34 ic_m1 ?_
    refine Ex_ireturn d_rm_grow_35 rfl ?_
    refine Or.inl ⟨?_, rfl, Fr.rf⟩
    rintro ⟨z1, z2, z3, z4, z5, z6, z7, -, -⟩
    omega
  · rw [decide_eq_true_eq] at hc5
    refine Ex_aload_n d_rm_grow_8 rfl ?_
    refine Ex_iload_n d_rm_grow_9 rfl ?_
    refine Ex_pV1 (v := .int (bI (decide (0 ≤ r ∧ r < R.1)))) d_rm_grow_10 pk_rm_grow_241 (t_38 hs) (rm_isRule_s hs hR hRO hr) ?_
    refine Ex_if_eqB (decide (0 ≤ r ∧ r < R.1)) 34 d_rm_grow_13 rfl rfl (fun hc13 => ?_) (fun hc13 => ?_)
    · rw [decide_eq_false_iff_not] at hc13
      refine Ex_iconst d_rm_grow_34 ic_m1 ?_
      refine Ex_ireturn d_rm_grow_35 rfl ?_
      refine Or.inl ⟨?_, rfl, Fr.rf⟩
      rintro ⟨z1, z2, z3, z4, z5, z6, z7, -, -⟩
      omega
    · rw [decide_eq_true_eq] at hc13
      refine Ex_iload_n d_rm_grow_16 rfl ?_
      refine Ex_if_ltZ (w) 34 d_rm_grow_17 rfl rfl (by omega) (fun hc17 => ?_) (fun hc17 => ?_)
      · refine Ex_iconst d_rm_grow_34 ic_m1 ?_
        refine Ex_ireturn d_rm_grow_35 rfl ?_
        refine Or.inl ⟨?_, rfl, Fr.rf⟩
        rintro ⟨z1, z2, z3, z4, z5, z6, z7, -, -⟩
        omega
      · refine Ex_iload_n d_rm_grow_20 rfl ?_
        refine Ex_iconst d_rm_grow_21 ic_5 ?_
        refine Ex_icmp_gtZ (w) ((5)) 34 d_rm_grow_22 rfl rfl (by decide) (by omega) (by omega) (fun hc22 => ?_) (fun hc22 => ?_)
        · refine Ex_iconst d_rm_grow_34 ic_m1 ?_
          refine Ex_ireturn d_rm_grow_35 rfl ?_
          refine Or.inl ⟨?_, rfl, Fr.rf⟩
          rintro ⟨z1, z2, z3, z4, z5, z6, z7, -, -⟩
          omega
        · refine Ex_aload_n d_rm_grow_25 rfl ?_
          refine Ex_getIE (y := (nI (pNp P))) d_rm_grow_26 pf_rm_169 rfl (t_38 hs) hP.2.1.1 ?_
          refine Ex_bipush d_rm_grow_29 bp_16 ?_
          refine Ex_icmp_neN (pNp P) (16) 36 d_rm_grow_31 rfl rfl rfl (by omega) (by omega) (fun hc31 => ?_) (fun hc31 => ?_)
          · obtain ⟨p1, rfl⟩ : ∃ p1 : Nat, p = (p1 : Int) := ⟨p.toNat, by omega⟩
            obtain ⟨r1, rfl⟩ : ∃ r1 : Nat, r = (r1 : Int) := ⟨r.toNat, by omega⟩
            obtain ⟨s1, rfl⟩ : ∃ s1 : Nat, w = (s1 : Int) := ⟨w.toNat, by omega⟩
            simp only [← nIJ]
            simp only [Int.toNat_natCast]
            have hp1 : p1 < pNp P := by omega
            have hr1 : r1 < R.1 := by omega
            have hl0 : LO K.1 (lv0 P (pPat P p1)) := lv0_ok hQ (hQ.2.2.2.1 p1 hp1)
            refine Ex_aload_n d_rm_grow_36 rfl ?_
            refine Ex_getR (v := .ref 48) d_rm_grow_37 pf_rm_40 rfl (t_38 hs) (r_38_11 hs) ?_
            refine Ex_iload_n d_rm_grow_40 rfl ?_
            refine Ex_ialoadN (a := p1) (y := (nI ((pPat P p1).length))) d_rm_grow_41 (t_48 hs) rfl (by omega) (by decide) (hP.2.1.2 p1 hp1).1 ?_
            refine Ex_istore [some (.ref 38), some (.int (nI (p1))), some (.int (nI (r1))), some (.int (nI (s1))), some (.int (nI ((pPat P p1).length))), none, none, none, none, none, none] d_rm_grow_42 (Nat.le_of_ble_eq_true rfl) rfl ?_
            refine Ex_iconst d_rm_grow_44 ic_0 ?_
            refine Ex_istore [some (.ref 38), some (.int (nI (p1))), some (.int (nI (r1))), some (.int (nI (s1))), some (.int (nI ((pPat P p1).length))), some (.int (0)), none, none, none, none, none] d_rm_grow_45 (Nat.le_of_ble_eq_true rfl) rfl ?_
            refine rm_grow_L2 hs hP hQ hp1 (fun h1 hI => ?_) (pPat P p1).length 0 (by omega) h ⟨Fr.rf, fun x hx => absurd hx (by omega)⟩
            have f1g : Fr Wgw h h1 := hI.1.mono (by intro a k; unfold Wgw; omega)
            have f1z : Fr WgM h h1 := f1g.mono (fun a k z => Or.inr z)
            have hs1 : HT h1 := f1g.ht hs Wgw_st
            have hK1 := KM_g hs f1g hK
            have hR1 := RM_g hs f1g hR
            have hP1 : PM P h1 := PM_fr hs f1g (by intro a k; unfold WPM Wgw; omega) hP
            refine Ex_iconst d_rm_grow_144 ic_0 ?_
            refine Ex_istore [some (.ref 38), some (.int (nI (p1))), some (.int (nI (r1))), some (.int (nI (s1))), some (.int (nI ((pPat P p1).length))), some (.int (0)), none, none, none, none, none] d_rm_grow_145 (Nat.le_of_ble_eq_true rfl) rfl ?_
            refine Ex_iconst d_rm_grow_147 ic_0 ?_
            refine Ex_istore [some (.ref 38), some (.int (nI (p1))), some (.int (nI (r1))), some (.int (nI (s1))), some (.int (nI ((pPat P p1).length))), some (.int (0)), some (.int (0)), none, none, none, none] d_rm_grow_148 (Nat.le_of_ble_eq_true rfl) rfl ?_
            refine Ex_forget (ls' := [some (.ref 38), some (.int (nI (p1))), some (.int (nI (r1))), some (.int (nI (s1))), some (.int (nI ((pPat P p1).length))), some (.int (0)), some (.int (0)), none, none, none, none]) (sub_s (sub_s (sub_s (sub_s (sub_s (sub_s (sub_s (sub_n (sub_n (sub_n (sub_n sub_0))))))))))) (rm_grow_L3 hs1 hK1 hO hR1 hRO hr1 (s := s1) (by omega) hl0 (fun h2 f2 hex => ?_) (fun h2 hI2 hev => ?_) s1 0 (by omega) (fun u hu => absurd hu (by omega)) h1 ⟨Fr.rf, fun x hx => ?_⟩)
            · refine Or.inl ⟨?_, rfl, f1g.tr f2⟩
              rintro ⟨-, -, -, -, -, -, -, z, -⟩
              obtain ⟨t, ht, hn⟩ := hex
              exact hn (z t ht)
            · have fz : Fr WgM h h2 := f1z.tr (hI2.1.mono (fun a k z => Or.inr z))
              have hs2 : HT h2 := hI2.1.ht hs1 Wgw_st
              have hP2 : PM P h2 := PM_fr hs1 hI2.1 (by intro a k; unfold WPM Wgw; omega) hP1
              have hlt : LO K.1 (lvG K R P p1 r1 s1) := lvN_ok hO hRO hr1 hl0 s1 hev
              have hl60 : gN (lvG K R P p1 r1 s1) ≤ 60 := hlt.1
              refine Ex_iload d_rm_grow_193 rfl ?_
              refine Ex_sipush d_rm_grow_195 sp_6000 ?_
              refine Ex_aload_n d_rm_grow_198 rfl ?_
              refine Ex_getIE (y := (nI (pMd P))) d_rm_grow_199 pf_rm_172 rfl (t_38 hs2) hP2.1.1 ?_
              refine Ex_isubN (6000) (pMd P) d_rm_grow_202 rfl rfl (by omega) ?_
              refine Ex_icmp_leN (gN (lvG K R P p1 r1 s1)) (6000 - (pMd P)) 208 d_rm_grow_203 rfl rfl rfl (by omega) (by omega) (fun hc203 => ?_) (fun hc203 => ?_)
              · refine Ex_aload_n d_rm_grow_208 rfl ?_
                refine Ex_cV0 d_rm_grow_209 pk_rm_grow_248 (t_38 hs2) (rm_pattern_s hs2 hP2 hQ) ?_
                rintro rv h3 hA
                obtain ⟨rfl, hP3, f3⟩ : rv = some (.int (nI (pNp P))) ∧ PM (newPat P []) h3 ∧ Fr WPM h2 h3 := by
                  rcases hA with ⟨z, -, -⟩ | ⟨-, z1, z2, z3⟩
                  · exact absurd (show pNp P < 16 by omega) z
                  · exact ⟨z1, z2, z3⟩
                have hs3 : HT h3 := f3.ht hs2 WPM_st
                have hnn := HT_n hs2
                show Ex S rm_grow 212 [some (.ref 38), some (.int (nI (p1))), some (.int (nI (r1))), some (.int (nI (s1))), some (.int (nI (gN (lvG K R P p1 r1 s1)))), some (.int (nI (s1 % 2))), some (.int (nI (s1))), none, none, none, none] [.int (nI (pNp P))] h3 _
                refine Ex_istore [some (.ref 38), some (.int (nI (p1))), some (.int (nI (r1))), some (.int (nI (s1))), some (.int (nI (gN (lvG K R P p1 r1 s1)))), some (.int (nI (s1 % 2))), some (.int (nI (pNp P))), none, none, none, none] d_rm_grow_212 (Nat.le_of_ble_eq_true rfl) rfl ?_
                refine Ex_aload_n d_rm_grow_214 rfl ?_
                refine Ex_getR (v := .ref 48) d_rm_grow_215 pf_rm_40 rfl (t_38 hs3) (r_38_11 hs3) ?_
                refine Ex_iload d_rm_grow_218 rfl ?_
                refine Ex_iload d_rm_grow_220 rfl ?_
                refine Ex_iastoreN (a := pNp P) d_rm_grow_222 (t_48 hs3) rfl (by omega) (by decide) ?_
                refine Ex_iconst d_rm_grow_223 ic_0 ?_
                refine Ex_istore [some (.ref 38), some (.int (nI (p1))), some (.int (nI (r1))), some (.int (nI (s1))), some (.int (nI (gN (lvG K R P p1 r1 s1)))), some (.int (nI (s1 % 2))), some (.int (nI (pNp P))), some (.int (0)), none, none, none] d_rm_grow_224 (Nat.le_of_ble_eq_true rfl) rfl ?_
                refine Ex_forget (ls' := [some (.ref 38), some (.int (nI (p1))), some (.int (nI (r1))), some (.int (nI (s1))), some (.int (nI (gN (lvG K R P p1 r1 s1)))), some (.int (nI (s1 % 2))), some (.int (nI (pNp P))), some (.int (0)), none, none, none]) (sub_s (sub_s (sub_s (sub_s (sub_s (sub_s (sub_s (sub_s (sub_n (sub_n (sub_n sub_0))))))))))) (rm_grow_L5 (h := (wI h3 48 (pNp P) ((nI (gN (lvG K R P p1 r1 s1)))))) hs3 hQ hlt (by omega) (by omega) (sd := s1 % 2) (by omega) (fun x hx => ?_) (WN_st _) (fun h4 hI4 => ?_) (gN (lvG K R P p1 r1 s1)) 0 (by omega) _ ⟨Fr.rf, ?_, fun x hx => absurd hx (by omega)⟩)
                · obtain ⟨a1, a2, a3⟩ := hI2.2 x hx
                  exact ⟨by rw [mI_oth (Or.inl (by decide)), f3.I (by omega) (by unfold WPM; omega)]; exact a1, by rw [mI_oth (Or.inl (by decide)), f3.I (by omega) (by unfold WPM; omega)]; exact a2, fun k hk => by rw [mI_oth (Or.inl (by decide)), f3.I (by omega) (by unfold WPM; omega)]; exact a3 k hk⟩
                · refine Ex_iload d_rm_grow_331 rfl ?_
                  refine Ex_ireturn d_rm_grow_333 rfl ?_
                  refine Or.inr ⟨⟨by omega, by omega, by omega, by omega, by omega, by omega, by omega, hev, (show gN (lvG K R P p1 r1 s1) ≤ 6000 - pMd P by omega)⟩, rfl, ?_, ?_⟩
                  · obtain ⟨g1, g2, g3, g4⟩ := grR_s P (lvG K R P p1 r1 s1) (gN (lvG K R P p1 r1 s1))
                    have f4 : Fr (fun a k => WRw a k ∨ (a = 47 ∧ 60 * pNp P ≤ k ∧ k < 60 * pNp P + 60)) (wI h3 48 (pNp P) ((nI (gN (lvG K R P p1 r1 s1))))) h4 := hI4.1
                    refine ⟨hI4.2.1, ?_, ?_⟩
                    · have e12 : mI h4 38 12 = nI (pNp P + 1) := by rw [f4.I (by show 38 < mN h3; have := HT_n hs3; omega) (by unfold WRw; omega), mI_oth (Or.inl (by decide))]; exact hP3.2.1.1
                      have e48 : ∀ q, mI h4 48 q = mI (wI h3 48 (pNp P) ((nI (gN (lvG K R P p1 r1 s1))))) 48 q := fun q => f4.I (by show 48 < mN h3; have := HT_n hs3; omega) (by unfold WRw; omega)
                      have e47 : ∀ q x, q ≠ pNp P → x < 60 → mI h4 47 (60 * q + x) = mI h3 47 (60 * q + x) := fun q x hq hx => by rw [f4.I (by show 47 < mN h3; have := HT_n hs3; omega) (by unfold WRw; omega), mI_oth (Or.inl (by decide))]
                      refine ⟨by rw [e12]; show _ = nI (pNp (grR P (lvG K R P p1 r1 s1) (gN (lvG K R P p1 r1 s1))) + 1); rw [g2], fun q hq => ?_⟩
                      have hq : q < pNp (grR P (lvG K R P p1 r1 s1) (gN (lvG K R P p1 r1 s1))) + 1 := hq
                      rw [g2] at hq
                      have ePat : pPat (grP P (lvG K R P p1 r1 s1)) q = if q = pNp P then rgL (pMd P) (gN (lvG K R P p1 r1 s1)) else pPat P q := by
                        show va_up (pPat (grR P (lvG K R P p1 r1 s1) (gN (lvG K R P p1 r1 s1)))) (pNp (grR P (lvG K R P p1 r1 s1) (gN (lvG K R P p1 r1 s1)))) _ q = _
                        rw [g2, g3]
                        rfl
                      rw [ePat]
                      by_cases hqn : q = pNp P
                      · subst hqn
                        rw [if_pos rfl]
                        refine ⟨by rw [e48, mI_self, rgL_len], fun i hi => ?_⟩
                        rw [rgL_len] at hi
                        rw [hI4.2.2 i hi, rgL_get hi]
                      · rw [if_neg hqn]
                        obtain ⟨a1, a2⟩ := hP3.2.1.2 q (show q < pNp P + 1 by omega)
                        have eP : pPat (newPat P []) q = pPat P q := by show va_up (pPat P) (pNp P) [] q = _; unfold va_up; rw [if_neg hqn]
                        rw [eP] at a1 a2
                        have h60 := (hQ.2.2.2.1 q (by omega)).1
                        refine ⟨by rw [e48, mI_oth (Or.inr hqn)]; exact a1, fun i hi => ?_⟩
                        rw [e47 q i hqn (by omega)]
                        exact a2 i hi
                    · have hH3 : HiM (grP P (lvG K R P p1 r1 s1)) h3 := by
                        have z := hP3.2.2
                        unfold HiM at z ⊢
                        rw [show pHi (grP P (lvG K R P p1 r1 s1)) = pHi P from g4]
                        exact z
                      exact HiM_fr hs3 (Fr.tr (Fr.sI (W := fun a k => a ≠ 49 ∧ a ≠ 50 ∧ a ≠ 51 ∧ ¬ (a = 38 ∧ (k = 16 ∨ k = 17))) Fr.rf (by omega)) (f4.mono (by intro a k; unfold WRw; omega))) (by intro a k; unfold WHi; omega) hH3
                  · refine fz.tr ((f3.mono (fun a k z => Or.inl z)).tr (Fr.tr (Fr.sI (W := WgM) Fr.rf (Or.inl (by unfold WPM; omega))) (hI4.1.mono (fun a k z => Or.inl ?_))))
                    unfold WRw at z
                    unfold WPM
                    omega
                · exact RwM_fr (P := newPat P []) hs3 (Fr.sI (W := fun a _ => a = 48) Fr.rf rfl) (by intro a k; unfold WRw; omega) hP3.1
              · refine Ex_iconst d_rm_grow_206 ic_m1 ?_
                refine Ex_ireturn d_rm_grow_207 rfl ?_
                refine Or.inl ⟨?_, rfl, f1g.tr hI2.1⟩
                rintro ⟨-, -, -, -, -, -, -, -, z⟩
                have z : gN (lvG K R P p1 r1 s1) ≤ 6000 - pMd P := z
                omega
            · have z := hI.2 x hx
              show mI h1 60 (60 * (0 % 2) + x) = nI (gL (lv0 P (pPat P p1)) x) ∧ mI h1 61 (60 * (0 % 2) + x) = J (gO (lv0 P (pPat P p1)) x) ∧ ∀ k, k < gL (lv0 P (pPat P p1)) x → mI h1 59 (60 * (60 * (0 % 2) + x) + k) = eM (gX (lv0 P (pPat P p1)) x k)
              simpa using z
          · refine Ex_iconst d_rm_grow_34 ic_m1 ?_
            refine Ex_ireturn d_rm_grow_35 rfl ?_
            refine Or.inl ⟨?_, rfl, Fr.rf⟩
            rintro ⟨z1, z2, z3, z4, z5, z6, z7, -, -⟩
            omega
