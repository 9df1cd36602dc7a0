/-! The class: what lies on the board. -/
def cdB (F : SF) (f : Nat) (L : Nat → Pl) (k : Nat) : Int32 := match fT F f k with
  | none => cQ (L k)
  | some t => cT (some t)
def BcC (F : SF) (f : Nat) (L : Nat → Pl) (h : mj_H) : Prop := ∀ k, k < 64 → mI h 11 k = cdB F f L k ∧ mI h 12 k = bI (decide (opF F f k))
theorem cQ_m1 {n : Nat} {p : Pl} (hn : n ≤ 40) (h : okP n p) : cQ p = -1 ↔ p = none := by
  match p, h with
  | none, _ => exact ⟨fun _ => rfl, fun _ => rfl⟩
  | some (k, m), h =>
    have h1 := h.1
    have h2 := h.2
    refine ⟨fun z => absurd z ?_, fun z => by cases z⟩
    show ¬ nI (8 * k + m) = -1
    rw [nIJ, show (-1 : Int32) = J (-1) from rfl, J_inj (by omega) (by omega) (by omega) (by omega)]
    omega
theorem bo_isWaiting_s {S : mj_S} {h : mj_H} (hs : HT h) {F : SF} {n : Nat} (hn : n ≤ 40) {f : Nat} {L : Nat → Pl} (hL : okLy n L) (hB : BcC F f L h) {k : Nat} (hk : k < 64) : Cl S bo_isWaiting [.ref 7, .int (nI (k))] h (Pu (.int (bI (wtB F f L k))) h) := by
  show Ex S bo_isWaiting 0 [some (.ref 7), some (.int (nI (k)))] [] h _
  refine Ex_iload_n d_bo_isWaiting_0 rfl ?_
  refine Ex_if_ltN (k) 33 d_bo_isWaiting_1 rfl rfl (by omega) (fun hc1 => ?_) (fun hc1 => ?_)
  · exfalso; omega
  · refine Ex_iload_n d_bo_isWaiting_4 rfl ?_
    refine Ex_bipush d_bo_isWaiting_5 bp_64 ?_
    refine Ex_icmp_geN (k) (64) 33 d_bo_isWaiting_7 rfl rfl rfl (by omega) (by omega) (fun hc7 => ?_) (fun hc7 => ?_)
    · exfalso; omega
    · refine Ex_aload_n d_bo_isWaiting_10 rfl ?_
      refine Ex_getR (v := .ref 12) d_bo_isWaiting_11 pf_bo_17 rfl (t_7 hs) (r_7_5 hs) ?_
      refine Ex_iload_n d_bo_isWaiting_14 rfl ?_
      refine Ex_baloadN (a := k) (y := (bI (decide (opF F f k)))) d_bo_isWaiting_15 (t_12 hs) rfl (by omega) (by decide) ((hB k hk).2) ?_
      refine Ex_if_eqB (decide (opF F f k)) 33 d_bo_isWaiting_16 rfl rfl (fun hc16 => ?_) (fun hc16 => ?_)
      · rw [decide_eq_false_iff_not] at hc16
        refine Ex_iconst d_bo_isWaiting_33 ic_0 ?_
        refine Ex_zreturn d_bo_isWaiting_34 rfl (by decide) ?_
        refine ⟨?_, rfl⟩
        rw [show wtB F f L k = false by unfold wtB; rw [decide_eq_false_iff_not]; first | exact fun z => hc16 z.1 | exact fun z => hc26 (hcd.trans ((cQ_m1 hn (hL k)).mpr z.2))]
        rfl
      · rw [decide_eq_true_eq] at hc16
        have hcd : cdB F f L k = cQ (L k) := by unfold cdB; rw [hc16.2]
        refine Ex_aload_n d_bo_isWaiting_19 rfl ?_
        refine Ex_getR (v := .ref 11) d_bo_isWaiting_20 pf_bo_11 rfl (t_7 hs) (r_7_4 hs) ?_
        refine Ex_iload_n d_bo_isWaiting_23 rfl ?_
        refine Ex_ialoadN (a := k) (y := (cdB F f L k)) d_bo_isWaiting_24 (t_11 hs) rfl (by omega) (by decide) ((hB k hk).1) ?_
        refine Ex_iconst d_bo_isWaiting_25 ic_m1 ?_
        refine Ex_icmp_ne 33 d_bo_isWaiting_26 rfl (fun hc26 => ?_) (fun hc26 => ?_)
        · refine Ex_iconst d_bo_isWaiting_33 ic_0 ?_
          refine Ex_zreturn d_bo_isWaiting_34 rfl (by decide) ?_
          refine ⟨?_, rfl⟩
          rw [show wtB F f L k = false by unfold wtB; rw [decide_eq_false_iff_not]; first | exact fun z => hc16 z.1 | exact fun z => hc26 (hcd.trans ((cQ_m1 hn (hL k)).mpr z.2))]
          rfl
        · refine Ex_iconst d_bo_isWaiting_29 ic_1 ?_
          refine Ex_goto 34 d_bo_isWaiting_30 rfl ?_
          refine Ex_zreturn d_bo_isWaiting_34 rfl (by decide) ?_
          refine ⟨?_, rfl⟩
          rw [show wtB F f L k = true by unfold wtB; rw [decide_eq_true_eq]; exact ⟨hc16, (cQ_m1 hn (hL k)).mp (hcd.symm.trans hc26)⟩]
          rfl
theorem bo_codeAt_v {S : mj_S} {h : mj_H} (hs : HT h) {F : SF} {n : Nat} (hn : n ≤ 40) {f : Nat} {L : Nat → Pl} (hL : okLy n L) (hB : BcC F f L h) {k : Nat} (hk : k < 64) : Cl S bo_codeAt [.ref 7, .int (nI (k))] h (Pu (.int (cdB F f L k)) h) := by
  show Ex S bo_codeAt 0 [some (.ref 7), some (.int (nI (k)))] [] h _
  refine Ex_iload_n d_bo_codeAt_0 rfl ?_
  refine Ex_if_ltN (k) 19 d_bo_codeAt_1 rfl rfl (by omega) (fun hc1 => ?_) (fun hc1 => ?_)
  · exfalso; omega
  · refine Ex_iload_n d_bo_codeAt_4 rfl ?_
    refine Ex_bipush d_bo_codeAt_5 bp_64 ?_
    refine Ex_icmp_geN (k) (64) 19 d_bo_codeAt_7 rfl rfl rfl (by omega) (by omega) (fun hc7 => ?_) (fun hc7 => ?_)
    · exfalso; omega
    · refine Ex_aload_n d_bo_codeAt_10 rfl ?_
      refine Ex_getR (v := .ref 11) d_bo_codeAt_11 pf_bo_11 rfl (t_7 hs) (r_7_4 hs) ?_
      refine Ex_iload_n d_bo_codeAt_14 rfl ?_
      refine Ex_ialoadN (a := k) (y := (cdB F f L k)) d_bo_codeAt_15 (t_11 hs) rfl (by omega) (by decide) ((hB k hk).1) ?_
      refine Ex_goto 21 d_bo_codeAt_16 rfl ?_
      refine Ex_ireturn d_bo_codeAt_21 rfl ?_
      exact ⟨rfl, rfl⟩
theorem bo_codeAt_n {S : mj_S} {h : mj_H} : Cl S bo_codeAt [.ref 7, .int (-1)] h (Pu (.int (-2)) h) := by
  show Ex S bo_codeAt 0 [some (.ref 7), some (.int (-1))] [] h _
  refine Ex_iload_n d_bo_codeAt_0 rfl ?_
  refine Ex_if_ltZ ((-1)) 19 d_bo_codeAt_1 rfl (by decide) (by omega) (fun hc1 => ?_) (fun hc1 => ?_)
  · refine Ex_bipush d_bo_codeAt_19 bp_m2 ?_
    refine Ex_ireturn d_bo_codeAt_21 rfl ?_
    exact ⟨rfl, rfl⟩
  · exact absurd hc1 (by decide)
