/-! The class: fill, fills, cheapest. -/
def WSF (Y : OW) (a k : Nat) : Prop := WBo a k ∨ a = 19 ∨ a = 20 ∨ (a = 18 ∧ 4 ≤ k ∧ k ≤ 12) ∨ (74 ≤ a ∧ 7 ≤ (Y a).1 ∧ (Y a).1 ≤ 10)
theorem WSr_F {Y : OW} {C f : Nat} (hC : 74 ≤ C) (hY : Y C = (9, f)) : ∀ a k, WSr C a k → WSF Y a k := by
  intro a k z
  rcases z with z | z | z | z | z
  · exact Or.inl z
  · exact Or.inr (Or.inl z)
  · exact Or.inr (Or.inr (Or.inl z))
  · exact Or.inr (Or.inr (Or.inr (Or.inl z)))
  · refine Or.inr (Or.inr (Or.inr (Or.inr ?_)))
    rw [z, hY]
    exact ⟨hC, show 7 ≤ 9 by decide, show 9 ≤ 10 by decide⟩
theorem FC_setF {F : SF} {Y : OW} {h h' : mj_H} (hs : HT h) (hF : FC F Y h) {f A B C D : Nat} (fr : Fr (WSr C) h h') {G : Nat → Pl} {e x : Nat} (he : mI h' 18 9 = nI e) (hx : FlC1 (setF F f G x) Y h' f A B C D) : FC (setF F f G e) Y h' := by
  have hn := HT_n hs
  have hC := hx.1.2.2.1
  refine ⟨?_, he, fun q hq => ?_⟩
  · rw [fr.I (by omega) (by unfold WSr WBo; omega)]; exact hF.1
  · by_cases hqf : q = f
    · rw [hqf]
      exact ⟨A, B, C, D, FlC1_g hx (fun _ _ => rfl)⟩
    · obtain ⟨a, b, c, d, z⟩ := hF.2.2 q hq
      obtain ⟨⟨a1, a2⟩, ⟨a3, a4⟩, ⟨a5, a6⟩, a7, a8⟩ := z.1
      have nn : ∀ {x t : Nat}, 74 ≤ x → Y x = (t, q) → ∀ k, ¬ WSr C x k := fun {x t} h7 hy k w => by
        have : ¬ (x = C) := fun e => by rw [e, hC.2] at hy; exact hqf (Prod.mk.inj hy).2.symm
        unfold WSr WBo at w
        omega
      have z2 := FlC1_fr hs fr (by unfold WSr WBo; omega) (nn a1 a2) (nn a3 a4) (nn a5 a6) (nn a7 a8) OwE.rf z
      refine ⟨a, b, c, d, z2.1, z2.2.1, z2.2.2.1, ?_, z2.2.2.2.2⟩
      rw [show fL (setF F f G e) q = fL F q from if_neg hqf]
      exact z2.2.2.2.1
theorem rn_w {K : SK} (hO : KO K) {F : SF} {f n : Nat} {o : Nat → Nat} (hE : EnO (opF F f) 64 n o) {w w' : Nat} (hw : 30001 < w) (hw' : 30001 < w') {y : Bool} {a : Nat} : ∀ (N : Nat) (Z : ZS), zO K F f n Z → rnS K F f n w y a N Z = rnS K F f n w' y a N Z
  | 0, Z, h => rfl
  | N + 1, Z, h => by
    have hn64 := EnO_le hE
    generalize hx : nxS K F f n y a Z = r
    rcases r with _ | x
    · by_cases hz : zd Z = 0
      · rw [rn_s (tn_0 hx hz), rn_s (tn_0 hx hz)]
      · rw [rn_n (tn_b hx hz), rn_n (tn_b hx hz)]
        obtain ⟨e, hze⟩ : ∃ e, zd Z = e + 1 := ⟨zd Z - 1, by omega⟩
        have hI2 : zI K F f n (e + 1) Z := hze ▸ h.1
        rw [show zd Z - 1 = e by omega]
        exact rn_w hO hE hw hw' N _ (zO_li hI2).1
    · by_cases hs : zs Z = 30000 ∨ ze Z = 600000
      · rw [rn_s (tn_o hx hs), rn_s (tn_o hx hs)]
      · obtain ⟨h1, h2⟩ := nx_b hx h.2.2.2.2
        have hI2 := zI_la h h1 h2 hs
        have hff := h.1.2.1
        have hff2 := hI2.2.1
        have hzf2 : zf (laZ K Z x) = zf Z := rfl
        have hzs2 : zs (laZ K Z x) = zs Z + 1 := rfl
        rcases np_or hI2 hE with ⟨hm, b, hb1, hb2, hb3⟩ | ⟨hm, hb1⟩
        · rw [rn_n (tn_p hx hs hb1), rn_n (tn_p hx hs hb1)]
          exact rn_w hO hE hw hw' N _ (zO_pu (Z := laZ K Z x) hI2 hm hb2 hb3)
        · have hI8 : zI K F f n (zd Z + 1) (fiZ F f (laZ K Z x)) := zI_fi hO hI2 hn64 (by omega)
          rw [rn_n (tn_g hx hs hb1 (by omega)), rn_n (tn_g hx hs hb1 (by omega))]
          exact rn_w hO hE hw hw' N _ (zO_li hI8).1
theorem oc_w {K : SK} (hO : KO K) {F : SF} (hFO : FO K.1 F) {f w w' : Nat} (hw : 30001 < w) (hw' : 30001 < w') {y : Bool} : ocS K F f w y = ocS K F f w' y := by
  obtain ⟨n, o, hE⟩ := enx (opF F f) 64
  have hnp := EnO_nOp hE
  unfold ocS srS
  rcases np_or (zI_0 (f := f) (n := n) (b := 0) hFO) hE with ⟨hm, b, hb1, hb2, hb3⟩ | ⟨hm, hb1⟩
  · have hb1 : npS K F f (fun _ => none) (fS F f) = some b := hb1
    rw [hb1, hnp]
    dsimp only
    rw [rn_w hO hE hw hw' 60002 (Zi F f b) (zO_0 hFO hm hb2)]
  · have hb1 : npS K F f (fun _ => none) (fS F f) = none := hb1
    rw [hb1]
theorem to_fill_s {S : mj_S} {h : mj_H} (hs : HT h) {K : SK} (hK : KC K h) (hO : KO K) {F : SF} {Y : OW} (hF : FC F Y h) (hFO : FO K.1 F) (hFZ : FZ F) {z : Int} (hz : -2147483648 ≤ z ∧ z < 2147483648) : Cl S to_fill [.ref 0, .int (J (z))] h (AnsR (0 ≤ z ∧ z < F.1) (fillV (ocS K F z.toNat 1 false)) (FC (setO F z.toNat (ocS K F z.toNat 1 false)) Y) (WSF Y) h) := by
  show Ex S to_fill 0 [some (.ref 0), some (.int (J (z))), none] [] h _
  by_cases hr : 0 ≤ z ∧ z < F.1
  · obtain ⟨f, rfl⟩ : ∃ f : Nat, z = (f : Int) := ⟨z.toNat, by omega⟩
    obtain ⟨A, B, C, D, hx⟩ := hF.2.2 f (by omega)
    rw [← nIJ]
    refine Ex_aload_n d_to_fill_0 rfl ?_
    refine Ex_iload_n d_to_fill_1 rfl ?_
    refine Ex_pV1 (v := .ref (A)) d_to_fill_2 pk_to_fill_366 (t_0 hs) (to_floorOf_s hs hF hFO (by omega) hx) ?_
    refine Ex_astore_n [some (.ref 0), some (.int (nI (f))), some (.ref (A))] d_to_fill_5 (Nat.le_of_ble_eq_true rfl) rfl ?_
    refine Ex_aload_n d_to_fill_6 rfl ?_
    refine Ex_ifnonnull 12 d_to_fill_7 rfl ?_
    refine Ex_aload_n d_to_fill_12 rfl ?_
    refine Ex_getR (v := .ref 18) d_to_fill_13 pf_to_35 rfl (t_0 hs) (r_0_14 hs) ?_
    refine Ex_aload_n d_to_fill_16 rfl ?_
    refine Ex_iconst d_to_fill_17 ic_0 ?_
    refine Ex_cV2 d_to_fill_18 pk_to_fill_377 (t_18 hs) (se_begin_s hs hK hO hFO (f := f) (by omega) hx hF.2.1 (y := false)) ?_
    rintro rv h0 ⟨rfl, s, cd, fr0, hx0, hB0, h710, hZF0⟩
    have hs0 : HT h0 := fr0.ht hs (WSr_st hx.1.2.2.1.1)
    have hK0 := KC_Sr hx.1.2.2.1.1 hs fr0 hK
    show Ex S to_fill 21 [some (.ref 0), some (.int (nI (f))), some (.ref (A))] [] h0 _
    refine Ex_aload_n d_to_fill_21 rfl ?_
    refine Ex_getR (v := .ref 18) d_to_fill_22 pf_to_35 rfl (t_0 hs0) (r_0_14 hs0) ?_
    refine Ex_aload_n d_to_fill_25 rfl ?_
    refine Ex_iconst d_to_fill_26 ic_1 ?_
    refine Ex_cV2 d_to_fill_27 pk_to_fill_381 (t_18 hs0) (se_explore_s hs0 hK0 hO hFO hFZ (f := f) (by omega) hx0 (w := 1) (by omega) (y := false) hB0 h710 hZF0) ?_
    rintro rv h1 ⟨rfl, hq1⟩
    have hq : sX F f (fE F) Y A B C D (ocS K F f 1 false) h h1 := ⟨fr0.tr hq1.1, hq1.2.1, hq1.2.2⟩
    have hs1 : HT h1 := hq.1.ht hs (WSr_st hx.1.2.2.1.1)
    have hR := oc_R (f := f) (w := 1) (y := false) hO hFO
    have hfr := hq.1.mono (WSr_F hx.1.2.2.1.1 hx.1.2.2.1.2)
    have hFC : FC (setO F f (ocS K F f 1 false)) Y h1 := FC_setF hs hF hq.1 hq.2.1.2.2.1 hq.2.2
    show Ex S to_fill 30 [some (.ref 0), some (.int (nI (f))), some (.ref (A))] [] h1 _
    refine Ex_aload_n d_to_fill_30 rfl ?_
    refine Ex_getR (v := .ref 18) d_to_fill_31 pf_to_35 rfl (t_0 hs1) (r_0_14 hs1) ?_
    refine Ex_getIE (y := (nI (zf (ocS K F f 1 false).1))) d_to_fill_34 pf_to_385 rfl (t_18 hs1) hq.2.1.1 ?_
    refine Ex_if_leN (zf (ocS K F f 1 false).1) 42 d_to_fill_37 rfl rfl (by have := hR.1; omega) (fun hc37 => ?_) (fun hc37 => ?_)
    · refine Ex_aload_n d_to_fill_42 rfl ?_
      refine Ex_getR (v := .ref 18) d_to_fill_43 pf_to_35 rfl (t_0 hs1) (r_0_14 hs1) ?_
      refine Ex_getIE (y := (bI (!(ocS K F f 1 false).2))) d_to_fill_46 pf_to_388 rfl (t_18 hs1) hq.2.1.2.2.2 ?_
      refine Ex_if_eqB (!(ocS K F f 1 false).2) 56 d_to_fill_49 rfl rfl (fun hc49 => ?_) (fun hc49 => ?_)
      · refine Ex_iconst d_to_fill_56 ic_2 ?_
        refine Ex_ireturn d_to_fill_57 rfl ?_
        refine Or.inr ⟨by omega, ?_, ?_, hfr⟩
        · rw [Int.toNat_natCast]
          unfold fillV
          rw [if_neg (by omega), if_pos (by rw [Bool.not_eq_false'] at hc49; exact hc49)]; rfl
        · rw [Int.toNat_natCast]
          exact hFC
      · refine Ex_iconst d_to_fill_52 ic_0 ?_
        refine Ex_goto 57 d_to_fill_53 rfl ?_
        refine Ex_ireturn d_to_fill_57 rfl ?_
        refine Or.inr ⟨by omega, ?_, ?_, hfr⟩
        · rw [Int.toNat_natCast]
          unfold fillV
          rw [if_neg (by omega), if_neg (by rw [Bool.not_eq_true'] at hc49; rw [hc49]; decide)]; rfl
        · rw [Int.toNat_natCast]
          exact hFC
    · refine Ex_iconst d_to_fill_40 ic_1 ?_
      refine Ex_ireturn d_to_fill_41 rfl ?_
      refine Or.inr ⟨by omega, ?_, ?_, hfr⟩
      · rw [Int.toNat_natCast]
        unfold fillV
        rw [if_pos (by omega)]; rfl
      · rw [Int.toNat_natCast]
        exact hFC
  · refine Ex_aload_n d_to_fill_0 rfl ?_
    refine Ex_iload_n d_to_fill_1 rfl ?_
    refine Ex_pV1 (v := .null) d_to_fill_2 pk_to_fill_366 (t_0 hs) (to_floorOf_n hs hF hFO hz hr) ?_
    refine Ex_astore0_n [some (.ref 0), some (.int (J (z))), some (.null)] d_to_fill_5 (Nat.le_of_ble_eq_true rfl) rfl ?_
    refine Ex_aload0_n d_to_fill_6 rfl ?_
    refine Ex_ifnonnull0 d_to_fill_7 ?_
    refine Ex_iconst d_to_fill_10 ic_m1 ?_
    refine Ex_ireturn d_to_fill_11 rfl ?_
    exact Or.inl ⟨fun y => hr (by first | exact y | exact y.1), rfl, rfl⟩
theorem to_fills_s {S : mj_S} {h : mj_H} (hs : HT h) {K : SK} (hK : KC K h) (hO : KO K) {F : SF} {Y : OW} (hF : FC F Y h) (hFO : FO K.1 F) (hFZ : FZ F) {z m : Int} (hz : -2147483648 ≤ z ∧ z < 2147483648) (hm : -2147483648 ≤ m ∧ m < 2147483648) : Cl S to_fills [.ref 0, .int (J (z)), .int (J (m))] h (AnsR ((0 ≤ z ∧ z < F.1) ∧ 1 ≤ m ∧ m ≤ 1000) (fillsV (ocS K F z.toNat m.toNat false)) (FC (setO F z.toNat (ocS K F z.toNat m.toNat false)) Y) (WSF Y) h) := by
  show Ex S to_fills 0 [some (.ref 0), some (.int (J (z))), some (.int (J (m))), none] [] h _
  by_cases hr : 0 ≤ z ∧ z < F.1
  · have hm0 := hm
    obtain ⟨f, rfl⟩ : ∃ f : Nat, z = (f : Int) := ⟨z.toNat, by omega⟩
    obtain ⟨A, B, C, D, hx⟩ := hF.2.2 f (by omega)
    rw [← nIJ]
    refine Ex_aload_n d_to_fills_0 rfl ?_
    refine Ex_iload_n d_to_fills_1 rfl ?_
    refine Ex_pV1 (v := .ref (A)) d_to_fills_2 pk_to_fills_366 (t_0 hs) (to_floorOf_s hs hF hFO (by omega) hx) ?_
    refine Ex_astore_n [some (.ref 0), some (.int (nI (f))), some (.int (J (m))), some (.ref (A))] d_to_fills_5 (Nat.le_of_ble_eq_true rfl) rfl ?_
    refine Ex_aload_n d_to_fills_6 rfl ?_
    refine Ex_ifnull d_to_fills_7 ?_
    refine Ex_iload_n d_to_fills_10 rfl ?_
    refine Ex_iconst d_to_fills_11 ic_1 ?_
    refine Ex_icmp_ltZ (m) ((1)) 22 d_to_fills_12 rfl rfl (by decide) (by omega) (by omega) (fun hc12 => ?_) (fun hc12 => ?_)
    · refine Ex_iconst d_to_fills_22 ic_m1 ?_
      refine Ex_ireturn d_to_fills_23 rfl ?_
      exact Or.inl ⟨by omega, rfl, rfl⟩
    · refine Ex_iload_n d_to_fills_15 rfl ?_
      refine Ex_sipush d_to_fills_16 sp_1000 ?_
      refine Ex_icmp_leZ (m) ((1000)) 24 d_to_fills_19 rfl rfl (by decide) (by omega) (by omega) (fun hc19 => ?_) (fun hc19 => ?_)
      · obtain ⟨c, rfl⟩ : ∃ c : Nat, m = (c : Int) := ⟨m.toNat, by omega⟩
        rw [← nIJ]
        refine Ex_aload_n d_to_fills_24 rfl ?_
        refine Ex_getR (v := .ref 18) d_to_fills_25 pf_to_35 rfl (t_0 hs) (r_0_14 hs) ?_
        refine Ex_aload_n d_to_fills_28 rfl ?_
        refine Ex_iconst d_to_fills_29 ic_0 ?_
        refine Ex_cV2 d_to_fills_30 pk_to_fills_377 (t_18 hs) (se_begin_s hs hK hO hFO (f := f) (by omega) hx hF.2.1 (y := false)) ?_
        rintro rv h0 ⟨rfl, s, cd, fr0, hx0, hB0, h710, hZF0⟩
        have hs0 : HT h0 := fr0.ht hs (WSr_st hx.1.2.2.1.1)
        have hK0 := KC_Sr hx.1.2.2.1.1 hs fr0 hK
        show Ex S to_fills 33 [some (.ref 0), some (.int (nI (f))), some (.int (nI (c))), some (.ref (A))] [] h0 _
        refine Ex_aload_n d_to_fills_33 rfl ?_
        refine Ex_getR (v := .ref 18) d_to_fills_34 pf_to_35 rfl (t_0 hs0) (r_0_14 hs0) ?_
        refine Ex_aload_n d_to_fills_37 rfl ?_
        refine Ex_iload_n d_to_fills_38 rfl ?_
        refine Ex_cV2 d_to_fills_39 pk_to_fills_381 (t_18 hs0) (se_explore_s hs0 hK0 hO hFO hFZ (f := f) (by omega) hx0 (w := c) (by omega) (y := false) hB0 h710 hZF0) ?_
        rintro rv h1 ⟨rfl, hq1⟩
        have hq : sX F f (fE F) Y A B C D (ocS K F f c false) h h1 := ⟨fr0.tr hq1.1, hq1.2.1, hq1.2.2⟩
        have hs1 : HT h1 := hq.1.ht hs (WSr_st hx.1.2.2.1.1)
        have hR := oc_R (f := f) (w := c) (y := false) hO hFO
        have hfr := hq.1.mono (WSr_F hx.1.2.2.1.1 hx.1.2.2.1.2)
        have hFC : FC (setO F f (ocS K F f c false)) Y h1 := FC_setF hs hF hq.1 hq.2.1.2.2.1 hq.2.2
        show Ex S to_fills 42 [some (.ref 0), some (.int (nI (f))), some (.int (nI (c))), some (.ref (A))] [] h1 _
        refine Ex_aload_n d_to_fills_42 rfl ?_
        refine Ex_getR (v := .ref 18) d_to_fills_43 pf_to_35 rfl (t_0 hs1) (r_0_14 hs1) ?_
        refine Ex_getIE (y := (bI (!(ocS K F f c false).2))) d_to_fills_46 pf_to_388 rfl (t_18 hs1) hq.2.1.2.2.2 ?_
        refine Ex_if_eqB (!(ocS K F f c false).2) 62 d_to_fills_49 rfl rfl (fun hc49 => ?_) (fun hc49 => ?_)
        · refine Ex_bipush d_to_fills_62 bp_m2 ?_
          refine Ex_ireturn d_to_fills_64 rfl ?_
          refine Or.inr ⟨by omega, ?_, ?_, hfr⟩
          · rw [Int.toNat_natCast, Int.toNat_natCast]
            unfold fillsV
            rw [if_pos (by rw [Bool.not_eq_false'] at hc49; exact hc49)]; rfl
          · rw [Int.toNat_natCast, Int.toNat_natCast]
            exact hFC
        · refine Ex_aload_n d_to_fills_52 rfl ?_
          refine Ex_getR (v := .ref 18) d_to_fills_53 pf_to_35 rfl (t_0 hs1) (r_0_14 hs1) ?_
          refine Ex_getIE (y := (nI (zf (ocS K F f c false).1))) d_to_fills_56 pf_to_385 rfl (t_18 hs1) hq.2.1.1 ?_
          refine Ex_goto 64 d_to_fills_59 rfl ?_
          refine Ex_ireturn d_to_fills_64 rfl ?_
          refine Or.inr ⟨by omega, ?_, ?_, hfr⟩
          · rw [Int.toNat_natCast, Int.toNat_natCast]
            unfold fillsV
            rw [if_neg (by rw [Bool.not_eq_true'] at hc49; rw [hc49]; decide), nIJ]
          · rw [Int.toNat_natCast, Int.toNat_natCast]
            exact hFC
      · refine Ex_iconst d_to_fills_22 ic_m1 ?_
        refine Ex_ireturn d_to_fills_23 rfl ?_
        exact Or.inl ⟨by omega, rfl, rfl⟩
  · refine Ex_aload_n d_to_fills_0 rfl ?_
    refine Ex_iload_n d_to_fills_1 rfl ?_
    refine Ex_pV1 (v := .null) d_to_fills_2 pk_to_fills_366 (t_0 hs) (to_floorOf_n hs hF hFO hz hr) ?_
    refine Ex_astore0_n [some (.ref 0), some (.int (J (z))), some (.int (J (m))), some (.null)] d_to_fills_5 (Nat.le_of_ble_eq_true rfl) rfl ?_
    refine Ex_aload0_n d_to_fills_6 rfl ?_
    refine Ex_ifnull0 22 d_to_fills_7 rfl ?_
    refine Ex_iconst d_to_fills_22 ic_m1 ?_
    refine Ex_ireturn d_to_fills_23 rfl ?_
    exact Or.inl ⟨fun y => hr (by first | exact y | exact y.1), rfl, rfl⟩
theorem to_cheapest_s {S : mj_S} {h : mj_H} (hs : HT h) {K : SK} (hK : KC K h) (hO : KO K) {F : SF} {Y : OW} (hF : FC F Y h) (hFO : FO K.1 F) (hFZ : FZ F) {z : Int} (hz : -2147483648 ≤ z ∧ z < 2147483648) : Cl S to_cheapest [.ref 0, .int (J (z))] h (AnsR (0 ≤ z ∧ z < F.1) (cheapV (ocS K F z.toNat 1000000 true)) (FC (setO F z.toNat (ocS K F z.toNat 1000000 true)) Y) (WSF Y) h) := by
  show Ex S to_cheapest 0 [some (.ref 0), some (.int (J (z))), none] [] h _
  by_cases hr : 0 ≤ z ∧ z < F.1
  · obtain ⟨f, rfl⟩ : ∃ f : Nat, z = (f : Int) := ⟨z.toNat, by omega⟩
    obtain ⟨A, B, C, D, hx⟩ := hF.2.2 f (by omega)
    rw [← nIJ]
    refine Ex_aload_n d_to_cheapest_0 rfl ?_
    refine Ex_iload_n d_to_cheapest_1 rfl ?_
    refine Ex_pV1 (v := .ref (A)) d_to_cheapest_2 pk_to_cheapest_366 (t_0 hs) (to_floorOf_s hs hF hFO (by omega) hx) ?_
    refine Ex_astore_n [some (.ref 0), some (.int (nI (f))), some (.ref (A))] d_to_cheapest_5 (Nat.le_of_ble_eq_true rfl) rfl ?_
    refine Ex_aload_n d_to_cheapest_6 rfl ?_
    refine Ex_ifnonnull 12 d_to_cheapest_7 rfl ?_
    refine Ex_aload_n d_to_cheapest_12 rfl ?_
    refine Ex_getR (v := .ref 18) d_to_cheapest_13 pf_to_35 rfl (t_0 hs) (r_0_14 hs) ?_
    refine Ex_aload_n d_to_cheapest_16 rfl ?_
    refine Ex_iconst d_to_cheapest_17 ic_1 ?_
    refine Ex_cV2 d_to_cheapest_18 pk_to_cheapest_377 (t_18 hs) (se_begin_s hs hK hO hFO (f := f) (by omega) hx hF.2.1 (y := true)) ?_
    rintro rv h0 ⟨rfl, s, cd, fr0, hx0, hB0, h710, hZF0⟩
    have hs0 : HT h0 := fr0.ht hs (WSr_st hx.1.2.2.1.1)
    have hK0 := KC_Sr hx.1.2.2.1.1 hs fr0 hK
    show Ex S to_cheapest 21 [some (.ref 0), some (.int (nI (f))), some (.ref (A))] [] h0 _
    refine Ex_aload_n d_to_cheapest_21 rfl ?_
    refine Ex_getR (v := .ref 18) d_to_cheapest_22 pf_to_35 rfl (t_0 hs0) (r_0_14 hs0) ?_
    refine Ex_aload_n d_to_cheapest_25 rfl ?_
    refine Ex_ldc_w pi_to_392 d_to_cheapest_26 ?_
    refine Ex_cV2 d_to_cheapest_29 pk_to_cheapest_381 (t_18 hs0) (se_explore_s hs0 hK0 hO hFO hFZ (f := f) (by omega) hx0 (w := 2147483647) (by omega) (y := true) hB0 h710 hZF0) ?_
    rintro rv h1 ⟨rfl, hq1⟩
    have hq : sX F f (fE F) Y A B C D (ocS K F f 2147483647 true) h h1 := ⟨fr0.tr hq1.1, hq1.2.1, hq1.2.2⟩
    have hs1 : HT h1 := hq.1.ht hs (WSr_st hx.1.2.2.1.1)
    have hR := oc_R (f := f) (w := 2147483647) (y := true) hO hFO
    have hfr := hq.1.mono (WSr_F hx.1.2.2.1.1 hx.1.2.2.1.2)
    have hFC : FC (setO F f (ocS K F f 2147483647 true)) Y h1 := FC_setF hs hF hq.1 hq.2.1.2.2.1 hq.2.2
    show Ex S to_cheapest 32 [some (.ref 0), some (.int (nI (f))), some (.ref (A))] [] h1 _
    refine Ex_aload_n d_to_cheapest_32 rfl ?_
    refine Ex_getR (v := .ref 18) d_to_cheapest_33 pf_to_35 rfl (t_0 hs1) (r_0_14 hs1) ?_
    refine Ex_getIE (y := (bI (!(ocS K F f 2147483647 true).2))) d_to_cheapest_36 pf_to_388 rfl (t_18 hs1) hq.2.1.2.2.2 ?_
    refine Ex_if_neB (!(ocS K F f 2147483647 true).2) 45 d_to_cheapest_39 rfl rfl (fun hc39 => ?_) (fun hc39 => ?_)
    · refine Ex_aload_n d_to_cheapest_45 rfl ?_
      refine Ex_getR (v := .ref 18) d_to_cheapest_46 pf_to_35 rfl (t_0 hs1) (r_0_14 hs1) ?_
      refine Ex_getIE (y := (nI (zf (ocS K F f 2147483647 true).1))) d_to_cheapest_49 pf_to_385 rfl (t_18 hs1) hq.2.1.1 ?_
      refine Ex_if_leN (zf (ocS K F f 2147483647 true).1) 65 d_to_cheapest_52 rfl rfl (by have := hR.1; omega) (fun hc52 => ?_) (fun hc52 => ?_)
      · refine Ex_bipush d_to_cheapest_65 bp_m2 ?_
        refine Ex_ireturn d_to_cheapest_67 rfl ?_
        refine Or.inr ⟨by omega, ?_, ?_, hfr⟩
        · rw [Int.toNat_natCast, oc_w hO hFO (w := 1000000) (w' := 2147483647) (by decide) (by decide)]
          unfold cheapV
          rw [if_neg (by rw [Bool.not_eq_true'] at hc39; rw [hc39]; decide), if_neg (by omega)]; rfl
        · rw [Int.toNat_natCast, oc_w hO hFO (w := 1000000) (w' := 2147483647) (by decide) (by decide)]
          exact hFC
      · refine Ex_aload_n d_to_cheapest_55 rfl ?_
        refine Ex_getR (v := .ref 18) d_to_cheapest_56 pf_to_35 rfl (t_0 hs1) (r_0_14 hs1) ?_
        refine Ex_getIE (y := (nI (zb (ocS K F f 2147483647 true).1))) d_to_cheapest_59 pf_to_393 rfl (t_18 hs1) hq.2.1.2.1 ?_
        refine Ex_goto 67 d_to_cheapest_62 rfl ?_
        refine Ex_ireturn d_to_cheapest_67 rfl ?_
        refine Or.inr ⟨by omega, ?_, ?_, hfr⟩
        · rw [Int.toNat_natCast, oc_w hO hFO (w := 1000000) (w' := 2147483647) (by decide) (by decide)]
          unfold cheapV
          rw [if_neg (by rw [Bool.not_eq_true'] at hc39; rw [hc39]; decide), if_pos (by omega), nIJ]
        · rw [Int.toNat_natCast, oc_w hO hFO (w := 1000000) (w' := 2147483647) (by decide) (by decide)]
          exact hFC
    · refine Ex_bipush d_to_cheapest_42 bp_m3 ?_
      refine Ex_ireturn d_to_cheapest_44 rfl ?_
      refine Or.inr ⟨by omega, ?_, ?_, hfr⟩
      · rw [Int.toNat_natCast, oc_w hO hFO (w := 1000000) (w' := 2147483647) (by decide) (by decide)]
        unfold cheapV
        rw [if_pos (by rw [Bool.not_eq_false'] at hc39; exact hc39)]; rfl
      · rw [Int.toNat_natCast, oc_w hO hFO (w := 1000000) (w' := 2147483647) (by decide) (by decide)]
        exact hFC
  · refine Ex_aload_n d_to_cheapest_0 rfl ?_
    refine Ex_iload_n d_to_cheapest_1 rfl ?_
    refine Ex_pV1 (v := .null) d_to_cheapest_2 pk_to_cheapest_366 (t_0 hs) (to_floorOf_n hs hF hFO hz hr) ?_
    refine Ex_astore0_n [some (.ref 0), some (.int (J (z))), some (.null)] d_to_cheapest_5 (Nat.le_of_ble_eq_true rfl) rfl ?_
    refine Ex_aload0_n d_to_cheapest_6 rfl ?_
    refine Ex_ifnonnull0 d_to_cheapest_7 ?_
    refine Ex_iconst d_to_cheapest_10 ic_m1 ?_
    refine Ex_ireturn d_to_cheapest_11 rfl ?_
    exact Or.inl ⟨fun y => hr (by first | exact y | exact y.1), rfl, rfl⟩
