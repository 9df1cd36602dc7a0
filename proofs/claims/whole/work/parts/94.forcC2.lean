/-! The class: forced. -/
theorem Wfo_t : ∀ a k, Wfo a k → WBo a k := Wfo_B
theorem bo_forceRounds_N {S : mj_S} {h : mj_H} (hs : HT h) {K : SK} (hK : KC K h) (hO : KO K) {F : SF} (hFO : FO K.1 F) {f : Nat} (hf : f < F.1) {s : Nat} {cd : Nat → Nat} : ∀ (N : Nat) (L : Nat → Pl) (l : Nat → Nat) (q r : Nat) (h1 : mj_H), okR K F f (L, l, 0) → cnB (wtB F f L) 0 64 < N → q + cnB (wtB F f L) 0 64 ≤ 64 → r + N = 65 → BS K F f s cd L l h1 → Fr Wfo h h1 → Ex S bo_forceRounds 4 [some (.ref 7), some (.int (nI (q))), some (.int (nI (r))), none] [] h1 (fun r h' => r = some (.int (nI (frS K F f N L l q).2)) ∧ (∃ l', BS K F f s cd (frS K F f N L l q).1 l' h') ∧ Fr Wfo h h') := by
  intro N
  induction N with
  | zero => intro L l q r h1 hok hN; exact absurd hN (Nat.not_lt_zero _)
  | succ N ih =>
    intro L l q r h1 hok hN hq hr hZ fr
    have hn4 := HT_n hs
    have hs1 := fr.ht hs Wfo_st
    have hK1 := KC_B hs (fr.mono Wfo_B) hK
    have hcnt := rdF_c (K := K) (F := F) (f := f) (L := L) (l := l) 64 (Nat.le_refl _)
    have hmn := rdF_mn (K := K) (F := F) (f := f) (T := (sgS K F f L l)) (s := (L, l, 0)) 64
    have hokk : okR K F f (rdF K F f (sgS K F f L l) (L, l, 0) 64) := rdF_ok hok 64
    refine Ex_iload_n d_bo_forceRounds_4 rfl ?_
    refine Ex_bipush d_bo_forceRounds_5 bp_64 ?_
    refine Ex_icmp_geN (r) (64) 31 d_bo_forceRounds_7 rfl rfl rfl (by omega) (by omega) (fun hc7 => ?_) (fun hc7 => ?_)
    · refine Ex_iload_n d_bo_forceRounds_31 rfl ?_
      refine Ex_ireturn d_bo_forceRounds_32 rfl ?_
      have hz : (rdF K F f (sgS K F f L l) (L, l, 0) 64).2.2 = 0 := by omega
      have hN0 : N = 0 := by omega
      subst hN0
      rw [fr_0 hz]
      have he : (rdF K F f (sgS K F f L l) (L, l, 0) 64) = (L, l, 0) := hmn.resolve_right (by rw [hz]; exact Nat.lt_irrefl _)
      rw [he]
      exact ⟨rfl, ⟨l, hZ⟩, fr⟩
    · refine Ex_aload_n d_bo_forceRounds_10 rfl ?_
      refine Ex_cV0 d_bo_forceRounds_11 pk_bo_forceRounds_132 (t_7 hs1) (bo_forceRound_s hs1 hK1 hO hFO hf hok hZ) ?_
      rintro rv h2 ⟨rfl, w1, w2⟩
      show Ex S bo_forceRounds 14 [some (.ref 7), some (.int (nI (q))), some (.int (nI (r))), none] [.int (nI ((rdF K F f (sgS K F f L l) (L, l, 0) 64).2.2))] h2 _
      refine Ex_istore_n [some (.ref 7), some (.int (nI (q))), some (.int (nI (r))), some (.int (nI ((rdF K F f (sgS K F f L l) (L, l, 0) 64).2.2)))] d_bo_forceRounds_14 (Nat.le_of_ble_eq_true rfl) rfl ?_
      refine Ex_iload_n d_bo_forceRounds_15 rfl ?_
      refine Ex_if_neN ((rdF K F f (sgS K F f L l) (L, l, 0) 64).2.2) 21 d_bo_forceRounds_16 rfl rfl (by omega) (fun hc16 => ?_) (fun hc16 => ?_)
      · refine Ex_iload_n d_bo_forceRounds_21 rfl ?_
        refine Ex_iload_n d_bo_forceRounds_22 rfl ?_
        refine Ex_iaddN (q) ((rdF K F f (sgS K F f L l) (L, l, 0) 64).2.2) d_bo_forceRounds_23 rfl rfl ?_
        refine Ex_istore_n [some (.ref 7), some (.int (nI (q + ((rdF K F f (sgS K F f L l) (L, l, 0) 64).2.2)))), some (.int (nI (r))), some (.int (nI ((rdF K F f (sgS K F f L l) (L, l, 0) 64).2.2)))] d_bo_forceRounds_24 (Nat.le_of_ble_eq_true rfl) rfl ?_
        refine Ex_iincN (r) 1 [some (.ref 7), some (.int (nI (q + ((rdF K F f (sgS K F f L l) (L, l, 0) 64).2.2)))), some (.int (nI (r + 1))), some (.int (nI ((rdF K F f (sgS K F f L l) (L, l, 0) 64).2.2)))] d_bo_forceRounds_25 rfl rfl rfl rfl ?_
        refine Ex_goto 4 d_bo_forceRounds_28 rfl ?_
        refine Ex_forget (ls' := [some (.ref 7), some (.int (nI (q + ((rdF K F f (sgS K F f L l) (L, l, 0) 64).2.2)))), some (.int (nI (r + 1))), none]) (sub_s (sub_s (sub_s (sub_n sub_0)))) ?_
        have hc16 : ¬ (rdF K F f (sgS K F f L l) (L, l, 0) 64).2.2 = 0 := hc16
        rw [fr_s hc16]
        exact ih (rdF K F f (sgS K F f L l) (L, l, 0) 64).1 (rdF K F f (sgS K F f L l) (L, l, 0) 64).2.1 (q + (rdF K F f (sgS K F f L l) (L, l, 0) 64).2.2) (r + 1) h2 (okR_0 hokk) (by omega) (by omega) (by omega) w1 (fr.tr w2)
      · refine Ex_iload_n d_bo_forceRounds_19 rfl ?_
        refine Ex_ireturn d_bo_forceRounds_20 rfl ?_
        rw [fr_0 hc16]
        exact ⟨rfl, ⟨_, w1⟩, fr.tr w2⟩
theorem bo_forceRounds_s {S : mj_S} {h : mj_H} (hs : HT h) {K : SK} (hK : KC K h) (hO : KO K) {F : SF} (hFO : FO K.1 F) {f : Nat} (hf : f < F.1) {s : Nat} {cd : Nat → Nat} {L : Nat → Pl} {l : Nat → Nat} (hok : okR K F f (L, l, 0)) (hZ : BS K F f s cd L l h) : Cl S bo_forceRounds [.ref 7] h (fun r h' => r = some (.int (nI (frS K F f 65 L l 0).2)) ∧ (∃ l', BS K F f s cd (frS K F f 65 L l 0).1 l' h') ∧ Fr Wfo h h') := by
  show Ex S bo_forceRounds 0 [some (.ref 7), none, none, none] [] h _
  refine Ex_iconst d_bo_forceRounds_0 ic_0 ?_
  refine Ex_istore_n [some (.ref 7), some (.int (0)), none, none] d_bo_forceRounds_1 (Nat.le_of_ble_eq_true rfl) rfl ?_
  refine Ex_iconst d_bo_forceRounds_2 ic_0 ?_
  refine Ex_istore_n [some (.ref 7), some (.int (0)), some (.int (0)), none] d_bo_forceRounds_3 (Nat.le_of_ble_eq_true rfl) rfl ?_
  refine bo_forceRounds_N hs hK hO hFO hf 65 L l 0 0 h hok (Nat.lt_of_le_of_lt (cnB_le _ _ _) (by decide)) (by have := cnB_le (wtB F f L) 64 0; omega) rfl hZ Fr.rf
theorem to_forced_s {S : mj_S} {h : mj_H} (hs : HT h) {K : SK} (hK : KC K h) (hO : KO K) {F : SF} {Y : OW} (hF : FC F Y h) (hFO : FO K.1 F) {z : Int} (hz : -2147483648 ≤ z ∧ z < 2147483648) : Cl S to_forced [.ref 0, .int (J (z))] h (AnsR (0 ≤ z ∧ z < F.1) ((foS K F z.toNat).2 : Int) (FC (setF F z.toNat (shL F z.toNat (foS K F z.toNat).1) (fE F)) Y) (WSF Y) h) := by
  show Ex S to_forced 0 [some (.ref 0), some (.int (J (z))), none, none] [] h _
  by_cases hr : 0 ≤ z ∧ z < F.1
  · obtain ⟨f, rfl⟩ : ∃ f : Nat, z = (f : Int) := ⟨z.toNat, by omega⟩
    obtain ⟨A, B, C, D, hx⟩ := hF.2.2 f (by omega)
    have hn4 := HT_n hs
    have hC := hx.1.2.2.1.1
    rw [← nIJ]
    obtain ⟨G, hGo, hGx⟩ : ∃ G : Nat → Pl, okLy K.1 G ∧ ∀ j, j < 64 → G j = fL F f j := by
      refine ⟨fun j => if j < 64 then fL F f j else none, fun j => ?_, fun j hj => if_pos hj⟩
      show okP K.1 (if j < 64 then fL F f j else none)
      split
      · rename_i q; exact ((hFO.2.2 f (by omega)).2.1 j q).2
      · trivial
    refine Ex_aload_n d_to_forced_0 rfl ?_
    refine Ex_iload_n d_to_forced_1 rfl ?_
    refine Ex_pV1 (v := .ref (A)) d_to_forced_2 pk_to_forced_366 (t_0 hs) (to_floorOf_s hs hF hFO (by omega) hx) ?_
    refine Ex_astore_n [some (.ref 0), some (.int (nI (f))), some (.ref (A)), none] d_to_forced_5 (Nat.le_of_ble_eq_true rfl) rfl ?_
    refine Ex_aload_n d_to_forced_6 rfl ?_
    refine Ex_ifnonnull 12 d_to_forced_7 rfl ?_
    refine Ex_aload_n d_to_forced_12 rfl ?_
    refine Ex_getR (v := .ref 7) d_to_forced_13 pf_to_26 rfl (t_0 hs) (r_0_13 hs) ?_
    refine Ex_aload_n d_to_forced_16 rfl ?_
    refine Ex_cV1 d_to_forced_17 pk_to_forced_396 (t_7 hs) (bo_begin_s hs hK hO hFO (f := f) (by omega) hx) ?_
    rintro rv h1 ⟨rfl, ⟨s, cd, hB⟩, h71, frb⟩
    have hs1 := frb.ht hs WBo_st
    have hK1 := KC_B hs frb hK
    have hx1 := FlC1_B hs frb hx
    show Ex S to_forced 20 [some (.ref 0), some (.int (nI (f))), some (.ref (A)), none] [] h1 _
    refine Ex_aload_n d_to_forced_20 rfl ?_
    refine Ex_getR (v := .ref 7) d_to_forced_21 pf_to_26 rfl (t_0 hs1) (r_0_13 hs1) ?_
    refine Ex_cV0 d_to_forced_24 pk_to_forced_399 (t_7 hs1) (bo_forceRounds_s hs1 hK1 hO hFO (f := f) (by omega) (L := nL0) (l := fS F f) ⟨okLy_0 _, fun _ => Nat.le_refl _, fun _ _ => rfl⟩ hB) ?_
    rintro rv h2 ⟨rfl, ⟨l', hB2⟩, fr2⟩
    have hs2 := fr2.ht hs1 Wfo_st
    have hn2 := HT_n hs2
    have hx2 := FlC1_B hs1 (fr2.mono Wfo_B) hx1
    show Ex S to_forced 27 [some (.ref 0), some (.int (nI (f))), some (.ref (A)), none] [.int (nI ((foS K F f).2))] h2 _
    refine Ex_istore_n [some (.ref 0), some (.int (nI (f))), some (.ref (A)), some (.int (nI ((foS K F f).2)))] d_to_forced_27 (Nat.le_of_ble_eq_true rfl) rfl ?_
    refine Ex_aload_n d_to_forced_28 rfl ?_
    refine Ex_getR (v := .ref 7) d_to_forced_29 pf_to_26 rfl (t_0 hs2) (r_0_13 hs2) ?_
    refine Ex_aload_n d_to_forced_32 rfl ?_
    refine Ex_cV1 d_to_forced_33 pk_to_forced_402 (t_7 hs2) (bo_showOn_s hs2 (n := K.1) hO.1 hFO (f := f) (by omega) (L := (foS K F f).1) (G := G) (fr_R 65 nL0 (fS F f) 0 ⟨okLy_0 _, fun _ => Nat.le_refl _, fun _ _ => rfl⟩).1 hGo (x := fE F) hFO.2.1 hB2.1.2.1 (FlC1_g (FlC1_f hx2 (fE F)) hGx)) ?_
    rintro rv h3 ⟨rfl, w1, w2⟩
    have fr3 : Fr (WSr C) h h3 := ((frb.mono (V := WSr C) (fun a k z => Or.inl z)).tr (fr2.mono (V := WSr C) (fun a k z => Or.inl (Wfo_B a k z)))).tr (w2.mono (V := WSr C) (fun a k z => Or.inr (Or.inr (Or.inr (Or.inr z)))))
    show Ex S to_forced 36 [some (.ref 0), some (.int (nI (f))), some (.ref (A)), some (.int (nI ((foS K F f).2)))] [] h3 _
    refine Ex_iload_n d_to_forced_36 rfl ?_
    refine Ex_ireturn d_to_forced_37 rfl ?_
    refine Or.inr ⟨by omega, ?_, ?_, fr3.mono (WSr_F hx.1.2.2.1.1 hx.1.2.2.1.2)⟩
    · rw [Int.toNat_natCast, nIJ]
    · rw [Int.toNat_natCast]
      refine FC_setF hs hF fr3 ?_ w1
      rw [w2.I (by omega) (by omega), fr2.I (by have := HT_n hs1; omega) (by unfold Wfo; omega), frb.I (by omega) (by unfold WBo; omega)]
      exact hF.2.1
  · refine Ex_aload_n d_to_forced_0 rfl ?_
    refine Ex_iload_n d_to_forced_1 rfl ?_
    refine Ex_pV1 (v := .null) d_to_forced_2 pk_to_forced_366 (t_0 hs) (to_floorOf_n hs hF hFO hz hr) ?_
    refine Ex_astore0_n [some (.ref 0), some (.int (J (z))), some (.null), none] d_to_forced_5 (Nat.le_of_ble_eq_true rfl) rfl ?_
    refine Ex_aload0_n d_to_forced_6 rfl ?_
    refine Ex_ifnonnull0 d_to_forced_7 ?_
    refine Ex_iconst d_to_forced_10 ic_m1 ?_
    refine Ex_ireturn d_to_forced_11 rfl ?_
    exact Or.inl ⟨hr, rfl, rfl⟩
