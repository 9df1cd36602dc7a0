/-! The class: the next place and the next fitting choice. -/
theorem BS_fg {K : SK} {F : SF} {f s : Nat} {cd : Nat → Nat} (hO : KO K) {L : Nat → Pl} {l : Nat → Nat} (hl : ∀ k, l k ≤ fS F f k) {h : mj_H} (hZ : BS K F f s cd L l h) : ∀ k, k < 64 → wtB F f L k = true → mI h 14 k = nI (fgS K F f L l k) := by
  intro k hk hw
  rw [hZ.2 k hk hw, gE_ct hZ.1.1.1.1 hO hl]
theorem wt_o {F : SF} {f : Nat} {L : Nat → Pl} {k : Nat} (h : wtB F f L k = true) : opF F f k ∧ L k = none := by
  unfold wtB at h
  rw [decide_eq_true_eq] at h
  exact h
theorem npF_tn {D : Nat → Bool} {g : Nat → Nat} {k : Nat} (h : D k = true) (hn : npF D g k = none) : npF D g (k + 1) = some k := by
  rw [npF_t h, hn]
theorem npF_tl {D : Nat → Bool} {g : Nat → Nat} {k b : Nat} (h : D k = true) (hn : npF D g k = some b) (hg : g k < g b) : npF D g (k + 1) = some k := by
  rw [npF_t h, hn]
  exact if_pos hg
theorem npF_tg {D : Nat → Bool} {g : Nat → Nat} {k b : Nat} (h : D k = true) (hn : npF D g k = some b) (hg : ¬ g k < g b) : npF D g (k + 1) = some b := by
  rw [npF_t h, hn]
  exact if_neg hg
theorem bo_scarcestPlace_L {S : mj_S} {h : mj_H} (hs : HT h) {K : SK} (hO : KO K) {F : SF} {f s : Nat} {cd : Nat → Nat} {L : Nat → Pl} (hL : okLy K.1 L) {l : Nat → Nat} (hl : ∀ k, l k ≤ fS F f k) (hZ : BS K F f s cd L l h) : ∀ d k : Nat, k + d = 64 → Ex S bo_scarcestPlace 4 [some (.ref 7), some (.int (J (vN (npF (wtB F f L) (fgS K F f L l) k)))), some (.int (nI (k)))] [] h (Pu (.int (J (vN (npF (wtB F f L) (fgS K F f L l) 64)))) h) := by
  have hk40 := hO.1
  have hG := BS_fg hO hl hZ
  intro d
  induction d with
  | zero =>
    intro k hkk
    obtain rfl : 64 = k := by omega
    refine Ex_iload_n d_bo_scarcestPlace_4 rfl ?_
    refine Ex_bipush d_bo_scarcestPlace_5 bp_64 ?_
    refine Ex_icmp_geN (64) (64) 46 d_bo_scarcestPlace_7 rfl rfl rfl (by omega) (by omega) (fun hc7 => ?_) (fun hc7 => ?_)
    · refine Ex_iload_n d_bo_scarcestPlace_46 rfl ?_
      refine Ex_ireturn d_bo_scarcestPlace_47 rfl ?_
      exact ⟨rfl, rfl⟩
    · exfalso; omega
  | succ d ih =>
    intro k hkk
    have ih1 := ih (k + 1) (by omega)
    have hfk : fgS K F f L l k ≤ 320 := Nat.le_trans fgS_le (by omega)
    rcases hr : npF (wtB F f L) (fgS K F f L l) k with _ | b
    · show Ex S bo_scarcestPlace 4 [some (.ref 7), some (.int (-1)), some (.int (nI (k)))] [] h _
      refine Ex_iload_n d_bo_scarcestPlace_4 rfl ?_
      refine Ex_bipush d_bo_scarcestPlace_5 bp_64 ?_
      refine Ex_icmp_geN (k) (64) 46 d_bo_scarcestPlace_7 rfl rfl rfl (by omega) (by omega) (fun hc7 => ?_) (fun hc7 => ?_)
      · exfalso; omega
      · refine Ex_aload_n d_bo_scarcestPlace_10 rfl ?_
        refine Ex_iload_n d_bo_scarcestPlace_11 rfl ?_
        refine Ex_pV1 (v := .int (bI (wtB F f L k))) d_bo_scarcestPlace_12 pk_bo_scarcestPlace_93 (t_7 hs) (bo_isWaiting_s hs hk40 hL hZ.1.2.1 (by omega)) ?_
        refine Ex_if_eqB (wtB F f L k) 40 d_bo_scarcestPlace_15 rfl rfl (fun hc15 => ?_) (fun hc15 => ?_)
        · refine Ex_iincN (k) 1 [some (.ref 7), some (.int (-1)), some (.int (nI (k + 1)))] d_bo_scarcestPlace_40 rfl rfl rfl rfl ?_
          refine Ex_goto 4 d_bo_scarcestPlace_43 rfl ?_
          rw [npF_f (by rw [hc15]; decide), hr] at ih1
          exact ih1
        · refine Ex_iload_n d_bo_scarcestPlace_18 rfl ?_
          refine Ex_iconst d_bo_scarcestPlace_19 ic_m1 ?_
          refine Ex_icmp_eqZ ((-1)) ((-1)) 38 d_bo_scarcestPlace_20 rfl (by decide) (by decide) (by omega) (by omega) (fun hc20 => ?_) (fun hc20 => ?_)
          · refine Ex_iload_n d_bo_scarcestPlace_38 rfl ?_
            refine Ex_istore_n [some (.ref 7), some (.int (nI (k))), some (.int (nI (k)))] d_bo_scarcestPlace_39 (Nat.le_of_ble_eq_true rfl) rfl ?_
            refine Ex_iincN (k) 1 [some (.ref 7), some (.int (nI (k))), some (.int (nI (k + 1)))] d_bo_scarcestPlace_40 rfl rfl rfl rfl ?_
            refine Ex_goto 4 d_bo_scarcestPlace_43 rfl ?_
            rw [npF_tn (g := fgS K F f L l) hc15 hr, show vN (some k) = (k : Int) from rfl, ← nIJ] at ih1
            exact ih1
          · exact absurd hc20 (by decide)
    · have hb := npF_D k hr
      have hfb : fgS K F f L l b ≤ 320 := Nat.le_trans fgS_le (by omega)
      rw [show vN (some b) = (b : Int) from rfl, ← nIJ]
      refine Ex_iload_n d_bo_scarcestPlace_4 rfl ?_
      refine Ex_bipush d_bo_scarcestPlace_5 bp_64 ?_
      refine Ex_icmp_geN (k) (64) 46 d_bo_scarcestPlace_7 rfl rfl rfl (by omega) (by omega) (fun hc7 => ?_) (fun hc7 => ?_)
      · exfalso; omega
      · refine Ex_aload_n d_bo_scarcestPlace_10 rfl ?_
        refine Ex_iload_n d_bo_scarcestPlace_11 rfl ?_
        refine Ex_pV1 (v := .int (bI (wtB F f L k))) d_bo_scarcestPlace_12 pk_bo_scarcestPlace_93 (t_7 hs) (bo_isWaiting_s hs hk40 hL hZ.1.2.1 (by omega)) ?_
        refine Ex_if_eqB (wtB F f L k) 40 d_bo_scarcestPlace_15 rfl rfl (fun hc15 => ?_) (fun hc15 => ?_)
        · refine Ex_iincN (k) 1 [some (.ref 7), some (.int (nI (b))), some (.int (nI (k + 1)))] d_bo_scarcestPlace_40 rfl rfl rfl rfl ?_
          refine Ex_goto 4 d_bo_scarcestPlace_43 rfl ?_
          have z : npF (wtB F f L) (fgS K F f L l) (k + 1) = some b := by first | exact npF_tg (g := fgS K F f L l) hc15 hr (by omega) | (rw [npF_f (by rw [hc15]; decide)]; exact hr)
          rw [z, show vN (some b) = (b : Int) from rfl, ← nIJ] at ih1
          exact ih1
        · refine Ex_iload_n d_bo_scarcestPlace_18 rfl ?_
          refine Ex_iconst d_bo_scarcestPlace_19 ic_m1 ?_
          refine Ex_icmp_eqZ (((b : Nat) : Int)) ((-1)) 38 d_bo_scarcestPlace_20 rfl (nIJ _) (by decide) (by omega) (by omega) (fun hc20 => ?_) (fun hc20 => ?_)
          · exfalso; omega
          · refine Ex_aload_n d_bo_scarcestPlace_23 rfl ?_
            refine Ex_getR (v := .ref 14) d_bo_scarcestPlace_24 pf_bo_24 rfl (t_7 hs) (r_7_7 hs) ?_
            refine Ex_iload_n d_bo_scarcestPlace_27 rfl ?_
            refine Ex_ialoadN (a := k) (y := (nI (fgS K F f L l k))) d_bo_scarcestPlace_28 (t_14 hs) rfl (by omega) (by decide) (hG k (by omega) hc15) ?_
            refine Ex_aload_n d_bo_scarcestPlace_29 rfl ?_
            refine Ex_getR (v := .ref 14) d_bo_scarcestPlace_30 pf_bo_24 rfl (t_7 hs) (r_7_7 hs) ?_
            refine Ex_iload_n d_bo_scarcestPlace_33 rfl ?_
            refine Ex_ialoadN (a := b) (y := (nI (fgS K F f L l b))) d_bo_scarcestPlace_34 (t_14 hs) rfl (by omega) (by decide) (hG b (by omega) hb.2) ?_
            refine Ex_icmp_geN (fgS K F f L l k) (fgS K F f L l b) 40 d_bo_scarcestPlace_35 rfl rfl rfl (by omega) (by omega) (fun hc35 => ?_) (fun hc35 => ?_)
            · refine Ex_iincN (k) 1 [some (.ref 7), some (.int (nI (b))), some (.int (nI (k + 1)))] d_bo_scarcestPlace_40 rfl rfl rfl rfl ?_
              refine Ex_goto 4 d_bo_scarcestPlace_43 rfl ?_
              have z : npF (wtB F f L) (fgS K F f L l) (k + 1) = some b := by first | exact npF_tg (g := fgS K F f L l) hc15 hr (by omega) | (rw [npF_f (by rw [hc15]; decide)]; exact hr)
              rw [z, show vN (some b) = (b : Int) from rfl, ← nIJ] at ih1
              exact ih1
            · refine Ex_iload_n d_bo_scarcestPlace_38 rfl ?_
              refine Ex_istore_n [some (.ref 7), some (.int (nI (k))), some (.int (nI (k)))] d_bo_scarcestPlace_39 (Nat.le_of_ble_eq_true rfl) rfl ?_
              refine Ex_iincN (k) 1 [some (.ref 7), some (.int (nI (k))), some (.int (nI (k + 1)))] d_bo_scarcestPlace_40 rfl rfl rfl rfl ?_
              refine Ex_goto 4 d_bo_scarcestPlace_43 rfl ?_
              rw [npF_tl (g := fgS K F f L l) hc15 hr (by omega), show vN (some k) = (k : Int) from rfl, ← nIJ] at ih1
              exact ih1
theorem bo_scarcestPlace_s {S : mj_S} {h : mj_H} (hs : HT h) {K : SK} (hO : KO K) {F : SF} {f s : Nat} {cd : Nat → Nat} {L : Nat → Pl} (hL : okLy K.1 L) {l : Nat → Nat} (hl : ∀ k, l k ≤ fS F f k) (hZ : BS K F f s cd L l h) : Cl S bo_scarcestPlace [.ref 7] h (Pu (.int (J (vN (npS K F f L l)))) h) := by
  show Ex S bo_scarcestPlace 0 [some (.ref 7), none, none] [] h _
  refine Ex_iconst d_bo_scarcestPlace_0 ic_m1 ?_
  refine Ex_istore_n [some (.ref 7), some (.int (-1)), none] d_bo_scarcestPlace_1 (Nat.le_of_ble_eq_true rfl) rfl ?_
  refine Ex_iconst d_bo_scarcestPlace_2 ic_0 ?_
  refine Ex_istore_n [some (.ref 7), some (.int (-1)), some (.int (0))] d_bo_scarcestPlace_3 (Nat.le_of_ble_eq_true rfl) rfl ?_
  exact bo_scarcestPlace_L hs hO hL hl hZ 64 0 rfl
theorem bo_fittingAfter_T {S : mj_S} {h : mj_H} {g g2 : Nat → Bool} {k c0 w t : Nat} (hw : w < 5) (h1 : 64 * w ≤ t) (h2 : t < 64 * w + 64) (hg : ∀ i, i < 64 → (g2 (64 * w + i) = true ↔ t ≤ 64 * w + i ∧ g (64 * w + i) = true)) {r : Option Nat} (hr : sc g (320 - t) t 0 = r) (kx : sc g (320 - 64 * (w + 1)) (64 * (w + 1)) 0 = r → Ex S bo_fittingAfter 26 [some (.ref 7), some (.int (nI (k))), some (.int (J ((c0 : Int) - 1))), some (.int (nI (c0))), some (.int (nI (w + 1))), none, none] [] h (Pu (.int (J (vN r))) h)) : Ex S bo_fittingAfter 80 [some (.ref 7), some (.int (nI (k))), some (.int (J ((c0 : Int) - 1))), some (.int (nI (c0))), some (.int (nI (w))), some (.long (wdL g2 w)), none] [] h (Pu (.int (J (vN r))) h) := by
  refine Ex_lload d_bo_fittingAfter_80 rfl ?_
  refine Ex_lconst d_bo_fittingAfter_82 lc_0 ?_
  refine Ex_lcmp d_bo_fittingAfter_83 ?_
  refine Ex_if_eqL 99 d_bo_fittingAfter_84 rfl (fun hc84 => ?_) (fun hc84 => ?_)
  · refine Ex_iincN (w) 1 [some (.ref 7), some (.int (nI (k))), some (.int (J ((c0 : Int) - 1))), some (.int (nI (c0))), some (.int (nI (w + 1))), some (.long (wdL g2 w)), none] d_bo_fittingAfter_99 rfl rfl rfl rfl ?_
    refine Ex_goto 26 d_bo_fittingAfter_102 rfl ?_
    refine Ex_forget (ls' := [some (.ref 7), some (.int (nI (k))), some (.int (J ((c0 : Int) - 1))), some (.int (nI (c0))), some (.int (nI (w + 1))), none, none]) (sub_s (sub_s (sub_s (sub_s (sub_s (sub_n (sub_n sub_0))))))) ?_
    refine kx ?_
    rw [← hr]
    have z := sc_skip (g := g) (l := 0) (64 * (w + 1) - t) (320 - 64 * (w + 1)) t (fun u u1 u2 y => ?_)
    · rw [show 320 - 64 * (w + 1) + (64 * (w + 1) - t) = 320 - t by omega, show t + (64 * (w + 1) - t) = 64 * (w + 1) by omega] at z
      exact z.symm
    · have q := (wdL_0 g2 w).mp hc84 (u - 64 * w) (by omega)
      have p := (hg (u - 64 * w) (by omega)).mpr
      rw [show 64 * w + (u - 64 * w) = u by omega] at p q
      rw [p ⟨u1, y⟩] at q
      cases q
  · have hnz : ∃ i, i < 64 ∧ g2 (64 * w + i) = true ∧ ∀ j, j < i → g2 (64 * w + j) = false := by
      rcases hq : sc g2 64 (64 * w) 0 with _ | x
      · exfalso
        exact hc84 ((wdL_0 g2 w).mpr (fun i hi => by have := sc_n 64 (64 * w) hq (64 * w + i) (by omega) (by omega); rw [Bool.not_eq_true] at this; exact this))
      · obtain ⟨q1, q2, q3, q4⟩ := sc_b 64 (64 * w) hq
        refine ⟨x - 64 * w, by omega, by rw [show 64 * w + (x - 64 * w) = x by omega]; exact q3, fun j hj => ?_⟩
        have := q4 (64 * w + j) (by omega) (by omega)
        rw [Bool.not_eq_true] at this
        exact this
    obtain ⟨i, hi, hi1, hi2⟩ := hnz
    refine Ex_bipush d_bo_fittingAfter_87 bp_64 ?_
    refine Ex_iload d_bo_fittingAfter_89 rfl ?_
    refine Ex_imulN (64) (w) d_bo_fittingAfter_91 rfl rfl ?_
    refine Ex_lload d_bo_fittingAfter_92 rfl ?_
    refine Ex_pS1 (v := .int (nI (i))) d_bo_fittingAfter_94 pk_bo_fittingAfter_110 (wdL_nz g2 w i hi hi1 hi2) ?_
    refine Ex_iaddN (64 * w) (i) d_bo_fittingAfter_97 rfl rfl ?_
    refine Ex_ireturn d_bo_fittingAfter_98 rfl ?_
    refine ⟨?_, rfl⟩
    obtain ⟨p1, p2⟩ := (hg i hi).mp hi1
    have z : sc g (320 - t) t 0 = some (64 * w + i) := by
      have y := sc_skip (g := g) (l := 0) (64 * w + i - t) (320 - (64 * w + i)) t (fun u u1 u2 y => ?_)
      · rw [show 320 - (64 * w + i) + (64 * w + i - t) = 320 - t by omega, show t + (64 * w + i - t) = 64 * w + i by omega] at y
        rw [y, show 320 - (64 * w + i) = (319 - (64 * w + i)) + 1 by omega]
        exact sc_t0 p2 _
      · have q := hi2 (u - 64 * w) (by omega)
        have p := (hg (u - 64 * w) (by omega)).mpr
        rw [show 64 * w + (u - 64 * w) = u by omega] at p q
        rw [p ⟨u1, y⟩] at q
        cases q
    rw [← hr, z, show vN (some (64 * w + i)) = ((64 * w + i : Nat) : Int) from rfl, ← nIJ]
theorem bo_fittingAfter_L {S : mj_S} {h : mj_H} (hs : HT h) {K : SK} {s : Nat} {cd l : Nat → Nat} (hB : BiC K s cd h) (hLb : LbC s cd l h) {k : Nat} (hk : k < 64) {wn : Nat → Nat} (hr : ∀ e, e < 4 → mI h 13 (k * 4 + e) = nI (wn e) ∧ wn e < 17) {c0 : Nat} (hc0 : c0 ≤ 320) : ∀ d w : Nat, w + d = 5 → c0 / 2 ^ 6 ≤ w → sc (gE K s cd l wn 4) (320 - (if w = c0 / 2 ^ 6 then c0 else 64 * w)) (if w = c0 / 2 ^ 6 then c0 else 64 * w) 0 = nfC K s cd l wn c0 → Ex S bo_fittingAfter 26 [some (.ref 7), some (.int (nI (k))), some (.int (J ((c0 : Int) - 1))), some (.int (nI (c0))), some (.int (nI (w))), none, none] [] h (Pu (.int (J (vN (nfC K s cd l wn c0)))) h) := by
  intro d
  induction d with
  | zero =>
    intro w hkk hcw hsc
    obtain rfl : 5 = w := by omega
    refine Ex_iload d_bo_fittingAfter_26 rfl ?_
    refine Ex_iconst d_bo_fittingAfter_28 ic_5 ?_
    refine Ex_icmp_geN (5) (5) 105 d_bo_fittingAfter_29 rfl rfl rfl (by omega) (by omega) (fun hc29 => ?_) (fun hc29 => ?_)
    · refine Ex_iconst d_bo_fittingAfter_105 ic_m1 ?_
      refine Ex_ireturn d_bo_fittingAfter_106 rfl ?_
      refine ⟨?_, rfl⟩
      have h64 : c0 / 2 ^ 6 = c0 / 64 := rfl
      have ht : 320 - (if 5 = c0 / 2 ^ 6 then c0 else 64 * 5) = 0 := by split <;> omega
      rw [ht] at hsc
      rw [← hsc]
      rfl
    · exfalso; omega
  | succ d ih =>
    intro w hkk hcw hsc
    have h64 : c0 / 2 ^ 6 = c0 / 64 := rfl
    refine Ex_iload d_bo_fittingAfter_26 rfl ?_
    refine Ex_iconst d_bo_fittingAfter_28 ic_5 ?_
    refine Ex_icmp_geN (w) (5) 105 d_bo_fittingAfter_29 rfl rfl rfl (by omega) (by omega) (fun hc29 => ?_) (fun hc29 => ?_)
    · exfalso; omega
    · refine Ex_aload_n d_bo_fittingAfter_32 rfl ?_
      refine Ex_getR (v := .ref 16) d_bo_fittingAfter_33 pf_bo_34 rfl (t_7 hs) (r_7_9 hs) ?_
      refine Ex_iload d_bo_fittingAfter_36 rfl ?_
      refine Ex_laloadN (a := w) (w := (wdL (bL s cd l) w)) d_bo_fittingAfter_38 (t_16 hs) rfl (by omega) (by decide) (hLb w (by omega)) ?_
      refine Ex_aload_n d_bo_fittingAfter_39 rfl ?_
      refine Ex_getR (v := .ref 8) d_bo_fittingAfter_40 pf_bo_41 rfl (t_7 hs) (r_7_0 hs) ?_
      refine Ex_aload_n d_bo_fittingAfter_43 rfl ?_
      refine Ex_getR (v := .ref 13) d_bo_fittingAfter_44 pf_bo_21 rfl (t_7 hs) (r_7_6 hs) ?_
      refine Ex_iload_n d_bo_fittingAfter_47 rfl ?_
      refine Ex_iconst d_bo_fittingAfter_48 ic_4 ?_
      refine Ex_imulN (k) (4) d_bo_fittingAfter_49 rfl rfl ?_
      refine Ex_iload d_bo_fittingAfter_50 rfl ?_
      refine Ex_pV3 (v := .long (wdL (gM K s cd wn 4) w)) d_bo_fittingAfter_52 pk_bo_fittingAfter_96 (t_8 hs) (ch_fitting_s hs hB hk hr (by omega)) ?_
      refine Ex_land d_bo_fittingAfter_55 ?_
      rw [show ((wdL (bL s cd l) w) &&& (wdL (gM K s cd wn 4) w) : Int64) = wdL (gE K s cd l wn 4) w from wdL_gM]
      refine Ex_lstore [some (.ref 7), some (.int (nI (k))), some (.int (J ((c0 : Int) - 1))), some (.int (nI (c0))), some (.int (nI (w))), some (.long (wdL (gE K s cd l wn 4) w)), none] d_bo_fittingAfter_56 (Nat.le_of_ble_eq_true rfl) rfl ?_
      refine Ex_iload d_bo_fittingAfter_58 rfl ?_
      refine Ex_iload_n d_bo_fittingAfter_60 rfl ?_
      refine Ex_bipush d_bo_fittingAfter_61 bp_6 ?_
      refine Ex_ishr d_bo_fittingAfter_63 ?_
      rw [show (((nI (c0)) >>> ((6 : Int32) &&& 31)) : Int32) = (nI (c0 / 2 ^ 6)) from (nI_shr (j := 6) (by omega) (by decide))]
      refine Ex_icmp_neN (w) (c0 / 2 ^ 6) 80 d_bo_fittingAfter_64 rfl rfl rfl (by omega) (by omega) (fun hc64 => ?_) (fun hc64 => ?_)
      · rw [if_neg hc64] at hsc
        exact bo_fittingAfter_T (g := (gE K s cd l wn 4)) (t := 64 * w) (by omega) (by omega) (by omega) (fun i hi => ⟨fun z => ⟨by omega, z⟩, fun z => z.2⟩) hsc (fun hn => ih (w + 1) (by omega) (by omega) (by rw [if_neg (by omega)]; exact hn))
      · refine Ex_lload d_bo_fittingAfter_67 rfl ?_
        refine Ex_ldc2_w pi_bo_108 d_bo_fittingAfter_69 ?_
        refine Ex_iload_n d_bo_fittingAfter_72 rfl ?_
        refine Ex_bipush d_bo_fittingAfter_73 bp_63 ?_
        refine Ex_iand d_bo_fittingAfter_75 ?_
        rw [show (((nI (c0)) &&& (63 : Int32)) : Int32) = (nI (c0 % 64)) from (nI_63 _)]
        refine Ex_lshl d_bo_fittingAfter_76 ?_
        rw [show (((-1)) <<< ((nI (c0 % 64)).toInt64 &&& 63) : Int64) = nL (18446744073709551616 - 2 ^ (c0 % 64)) from (m1_sh _ (Nat.mod_lt _ (by decide)))]
        refine Ex_land d_bo_fittingAfter_77 ?_
        rw [show ((wdL (gE K s cd l wn 4) w) &&& (nL (18446744073709551616 - 2 ^ (c0 % 64))) : Int64) = wdL (fun c => (gE K s cd l wn 4) c && decide (c0 ≤ c)) w from (by rw [hc64, h64]; exact wdL_mask _ _)]
        refine Ex_lstore [some (.ref 7), some (.int (nI (k))), some (.int (J ((c0 : Int) - 1))), some (.int (nI (c0))), some (.int (nI (w))), some (.long (wdL (fun c => (gE K s cd l wn 4) c && decide (c0 ≤ c)) w)), none] d_bo_fittingAfter_78 (Nat.le_of_ble_eq_true rfl) rfl ?_
        rw [if_pos hc64] at hsc
        refine bo_fittingAfter_T (g := (gE K s cd l wn 4)) (t := c0) (by omega) (by omega) (by omega) (fun i hi => ?_) hsc (fun hn => ih (w + 1) (by omega) (by omega) (by rw [if_neg (by omega)]; exact hn))
        show (_ && _) = true ↔ _
        rw [Bool.and_eq_true, decide_eq_true_eq]
        exact ⟨fun z => ⟨z.2, z.1⟩, fun z => ⟨z.2, z.1⟩⟩
theorem bo_fittingAfter_s {S : mj_S} {h : mj_H} (hs : HT h) {K : SK} {s : Nat} {cd l : Nat → Nat} (hB : BiC K s cd h) (hLb : LbC s cd l h) {k : Nat} (hk : k < 64) {wn : Nat → Nat} (hr : ∀ e, e < 4 → mI h 13 (k * 4 + e) = nI (wn e) ∧ wn e < 17) {c0 : Nat} (hc0 : c0 ≤ 320) : Cl S bo_fittingAfter [.ref 7, .int (nI (k)), .int (J ((c0 : Int) - 1))] h (Pu (.int (J (vN (nfC K s cd l wn c0)))) h) := by
  show Ex S bo_fittingAfter 0 [some (.ref 7), some (.int (nI (k))), some (.int (J ((c0 : Int) - 1))), none, none, none, none] [] h _
  have h64 : c0 / 2 ^ 6 = c0 / 64 := rfl
  refine Ex_iload_n d_bo_fittingAfter_0 rfl ?_
  refine Ex_iconst d_bo_fittingAfter_1 ic_1 ?_
  refine Ex_iaddZ ((c0 : Int) - 1) ((1)) d_bo_fittingAfter_2 rfl (by decide) ?_
  rw [show ((J (((c0 : Int) - 1) + ((1)))) : Int32) = (nI (c0)) from (by rw [nIJ]; congr 1; omega)]
  refine Ex_istore_n [some (.ref 7), some (.int (nI (k))), some (.int (J ((c0 : Int) - 1))), some (.int (nI (c0))), none, none, none] d_bo_fittingAfter_3 (Nat.le_of_ble_eq_true rfl) rfl ?_
  refine Ex_iload_n d_bo_fittingAfter_4 rfl ?_
  refine Ex_if_ltN (k) 18 d_bo_fittingAfter_5 rfl rfl (by omega) (fun hc5 => ?_) (fun hc5 => ?_)
  · exfalso; omega
  · refine Ex_iload_n d_bo_fittingAfter_8 rfl ?_
    refine Ex_bipush d_bo_fittingAfter_9 bp_64 ?_
    refine Ex_icmp_geN (k) (64) 18 d_bo_fittingAfter_11 rfl rfl rfl (by omega) (by omega) (fun hc11 => ?_) (fun hc11 => ?_)
    · exfalso; omega
    · refine Ex_iload_n d_bo_fittingAfter_14 rfl ?_
      refine Ex_if_geN (c0) 20 d_bo_fittingAfter_15 rfl rfl (by omega) (fun hc15 => ?_) (fun hc15 => ?_)
      · refine Ex_iload_n d_bo_fittingAfter_20 rfl ?_
        refine Ex_bipush d_bo_fittingAfter_21 bp_6 ?_
        refine Ex_ishr d_bo_fittingAfter_23 ?_
        rw [show (((nI (c0)) >>> ((6 : Int32) &&& 31)) : Int32) = (nI (c0 / 2 ^ 6)) from (nI_shr (j := 6) (by omega) (by decide))]
        refine Ex_istore [some (.ref 7), some (.int (nI (k))), some (.int (J ((c0 : Int) - 1))), some (.int (nI (c0))), some (.int (nI (c0 / 2 ^ 6))), none, none] d_bo_fittingAfter_24 (Nat.le_of_ble_eq_true rfl) rfl ?_
        exact bo_fittingAfter_L hs hB hLb hk hr hc0 (5 - c0 / 2 ^ 6) (c0 / 2 ^ 6) (by omega) (Nat.le_refl _) (by rw [if_pos rfl]; rfl)
      · exfalso; omega
