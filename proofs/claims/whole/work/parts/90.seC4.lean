/-! The class: a run of THE SEARCH. -/
theorem lcz_0 {K : SK} {st : Nat → Nat} {k : Nat} (h : st k = 0) : lcS K st (k + 1) = lcS K st k := if_pos h
theorem lc_n {K : SK} {st : Nat → Nat} {k : Nat} (h : ¬ st k = 0) (hn : lcS K st k = none) : lcS K st (k + 1) = some (kC K k) := by
  show (if st k = 0 then lcS K st k else _) = _
  rw [if_neg h, hn]
theorem lc_l {K : SK} {st : Nat → Nat} {k v : Nat} (h : ¬ st k = 0) (hn : lcS K st k = some v) (hv : v ≤ kC K k) : lcS K st (k + 1) = some v := by
  show (if st k = 0 then lcS K st k else _) = _
  rw [if_neg h, hn]
  exact if_pos hv
theorem lc_g {K : SK} {st : Nat → Nat} {k v : Nat} (h : ¬ st k = 0) (hn : lcS K st k = some v) (hv : ¬ v ≤ kC K k) : lcS K st (k + 1) = some (kC K k) := by
  show (if st k = 0 then lcS K st k else _) = _
  rw [if_neg h, hn]
  exact if_neg hv
theorem mx_l {S : mj_S} {h : mj_H} (r : Option Nat) (hr : ∀ v, r = some v → v ≤ 1000) : Cl S jd_max [.int 0, .int (J (vN r))] h (Pu (.int (nI (r.getD 0))) h) := by
  rcases r with _ | v
  · exact jd_max_z (S := S) (h := h) (a := 0) (b := -1) (by decide) (by decide)
  · have hv := hr v rfl
    have z := jd_max_s (S := S) (h := h) (a := 0) (b := v) (by decide) (by omega)
    rw [Nat.zero_max, nIJ v] at z
    rw [show (some v).getD 0 = v from rfl, nIJ v]
    exact z
theorem se_leastCostOn_L {S : mj_S} {h : mj_H} (hs : HT h) {K : SK} (hK : KC K h) (hO : KO K) {F : SF} {Y : OW} (hFO : FO K.1 F) {f A B C D : Nat} (hf : f < F.1) (hx : FlC1 F Y h f A B C D) : ∀ d k : Nat, k + d = K.1 → Ex S se_leastCostOn 4 [some (.ref 18), some (.ref (A)), some (.int (J (vN (lcS K (fS F f) k)))), some (.int (nI (k)))] [] h (Pu (.int (nI ((lcS K (fS F f) K.1).getD 0))) h) := by
  have hk40 := hO.1
  intro d
  induction d with
  | zero =>
    intro k hkk
    obtain rfl : K.1 = k := by omega
    refine Ex_iload_n d_se_leastCostOn_4 rfl ?_
    refine Ex_aload_n d_se_leastCostOn_5 rfl ?_
    refine Ex_getR (v := .ref 1) d_se_leastCostOn_6 pf_se_24 rfl (t_18 hs) (r_18_1 hs) ?_
    refine Ex_getIE (y := (nI (K.1))) d_se_leastCostOn_9 pf_se_77 rfl (t_1 hs) hK.1 ?_
    refine Ex_icmp_geN (K.1) (K.1) 55 d_se_leastCostOn_12 rfl rfl rfl (by omega) (by omega) (fun hc12 => ?_) (fun hc12 => ?_)
    · refine Ex_iconst d_se_leastCostOn_55 ic_0 ?_
      refine Ex_iload_n d_se_leastCostOn_56 rfl ?_
      refine Ex_pS2 (v := .int (nI ((lcS K (fS F f) K.1).getD 0))) d_se_leastCostOn_57 pk_se_leastCostOn_89 (mx_l _ (lcS_le hO (fS F f) K.1 (Nat.le_refl _))) ?_
      refine Ex_ireturn d_se_leastCostOn_60 rfl ?_
      exact ⟨rfl, rfl⟩
    · exfalso; omega
  | succ d ih =>
    intro k hkk
    have ih1 := ih (k + 1) (by omega)
    have hst := ((hFO.2.2 f hf).2.2 k (by omega)).1
    have hcst := (hO.2 k (by omega)).2.2
    have hle := lcS_le hO (fS F f) k (by omega)
    rcases hr : lcS K (fS F f) k with _ | v
    · show Ex S se_leastCostOn 4 [some (.ref 18), some (.ref (A)), some (.int (-1)), some (.int (nI (k)))] [] h _
      refine Ex_iload_n d_se_leastCostOn_4 rfl ?_
      refine Ex_aload_n d_se_leastCostOn_5 rfl ?_
      refine Ex_getR (v := .ref 1) d_se_leastCostOn_6 pf_se_24 rfl (t_18 hs) (r_18_1 hs) ?_
      refine Ex_getIE (y := (nI (K.1))) d_se_leastCostOn_9 pf_se_77 rfl (t_1 hs) hK.1 ?_
      refine Ex_icmp_geN (k) (K.1) 55 d_se_leastCostOn_12 rfl rfl rfl (by omega) (by omega) (fun hc12 => ?_) (fun hc12 => ?_)
      · exfalso; omega
      · refine Ex_aload_n d_se_leastCostOn_15 rfl ?_
        refine Ex_iload_n d_se_leastCostOn_16 rfl ?_
        refine Ex_pV1 (v := .int (nI (fS F f k))) d_se_leastCostOn_17 pk_se_leastCostOn_82 hx.2.1.2.1 (fl_stockOf_s hFO hf hx (by omega)) ?_
        refine Ex_if_leN (fS F f k) 49 d_se_leastCostOn_20 rfl rfl (by omega) (fun hc20 => ?_) (fun hc20 => ?_)
        · refine Ex_iincN (k) 1 [some (.ref 18), some (.ref (A)), some (.int (-1)), some (.int (nI (k + 1)))] d_se_leastCostOn_49 rfl rfl rfl rfl ?_
          refine Ex_goto 4 d_se_leastCostOn_52 rfl ?_
          rw [lcz_0 (by omega), hr] at ih1
          exact ih1
        · refine Ex_iload_n d_se_leastCostOn_23 rfl ?_
          refine Ex_iconst d_se_leastCostOn_24 ic_m1 ?_
          refine Ex_icmp_eqZ ((-1)) ((-1)) 40 d_se_leastCostOn_25 rfl (by decide) (by decide) (by omega) (by omega) (fun hc25 => ?_) (fun hc25 => ?_)
          · refine Ex_aload_n d_se_leastCostOn_40 rfl ?_
            refine Ex_getR (v := .ref 1) d_se_leastCostOn_41 pf_se_24 rfl (t_18 hs) (r_18_1 hs) ?_
            refine Ex_iload_n d_se_leastCostOn_44 rfl ?_
            refine Ex_pV1 (v := .int (nI (kC K k))) d_se_leastCostOn_45 pk_se_leastCostOn_86 (t_1 hs) (ki_costOf_s hs hK hO (by omega)) ?_
            refine Ex_istore_n [some (.ref 18), some (.ref (A)), some (.int (nI (kC K k))), some (.int (nI (k)))] d_se_leastCostOn_48 (Nat.le_of_ble_eq_true rfl) rfl ?_
            refine Ex_iincN (k) 1 [some (.ref 18), some (.ref (A)), some (.int (nI (kC K k))), some (.int (nI (k + 1)))] d_se_leastCostOn_49 rfl rfl rfl rfl ?_
            refine Ex_goto 4 d_se_leastCostOn_52 rfl ?_
            rw [lc_n (by omega) hr, show vN (some (kC K k)) = (kC K k : Int) from rfl, ← nIJ] at ih1
            exact ih1
          · exact absurd hc25 (by decide)
    · have hv := hle v hr
      rw [show vN (some v) = (v : Int) from rfl, ← nIJ]
      refine Ex_iload_n d_se_leastCostOn_4 rfl ?_
      refine Ex_aload_n d_se_leastCostOn_5 rfl ?_
      refine Ex_getR (v := .ref 1) d_se_leastCostOn_6 pf_se_24 rfl (t_18 hs) (r_18_1 hs) ?_
      refine Ex_getIE (y := (nI (K.1))) d_se_leastCostOn_9 pf_se_77 rfl (t_1 hs) hK.1 ?_
      refine Ex_icmp_geN (k) (K.1) 55 d_se_leastCostOn_12 rfl rfl rfl (by omega) (by omega) (fun hc12 => ?_) (fun hc12 => ?_)
      · exfalso; omega
      · refine Ex_aload_n d_se_leastCostOn_15 rfl ?_
        refine Ex_iload_n d_se_leastCostOn_16 rfl ?_
        refine Ex_pV1 (v := .int (nI (fS F f k))) d_se_leastCostOn_17 pk_se_leastCostOn_82 hx.2.1.2.1 (fl_stockOf_s hFO hf hx (by omega)) ?_
        refine Ex_if_leN (fS F f k) 49 d_se_leastCostOn_20 rfl rfl (by omega) (fun hc20 => ?_) (fun hc20 => ?_)
        · refine Ex_iincN (k) 1 [some (.ref 18), some (.ref (A)), some (.int (nI (v))), some (.int (nI (k + 1)))] d_se_leastCostOn_49 rfl rfl rfl rfl ?_
          refine Ex_goto 4 d_se_leastCostOn_52 rfl ?_
          have z : lcS K (fS F f) (k + 1) = some v := by first | exact lc_l (by omega) hr (by omega) | (rw [lcz_0 (by omega)]; exact hr)
          rw [z, show vN (some v) = (v : Int) from rfl, ← nIJ] at ih1
          exact ih1
        · refine Ex_iload_n d_se_leastCostOn_23 rfl ?_
          refine Ex_iconst d_se_leastCostOn_24 ic_m1 ?_
          refine Ex_icmp_eqZ (((v : Nat) : Int)) ((-1)) 40 d_se_leastCostOn_25 rfl (nIJ _) (by decide) (by omega) (by omega) (fun hc25 => ?_) (fun hc25 => ?_)
          · exfalso; omega
          · refine Ex_aload_n d_se_leastCostOn_28 rfl ?_
            refine Ex_getR (v := .ref 1) d_se_leastCostOn_29 pf_se_24 rfl (t_18 hs) (r_18_1 hs) ?_
            refine Ex_iload_n d_se_leastCostOn_32 rfl ?_
            refine Ex_pV1 (v := .int (nI (kC K k))) d_se_leastCostOn_33 pk_se_leastCostOn_86 (t_1 hs) (ki_costOf_s hs hK hO (by omega)) ?_
            refine Ex_iload_n d_se_leastCostOn_36 rfl ?_
            refine Ex_icmp_geN (kC K k) (v) 49 d_se_leastCostOn_37 rfl rfl rfl (by omega) (by omega) (fun hc37 => ?_) (fun hc37 => ?_)
            · refine Ex_iincN (k) 1 [some (.ref 18), some (.ref (A)), some (.int (nI (v))), some (.int (nI (k + 1)))] d_se_leastCostOn_49 rfl rfl rfl rfl ?_
              refine Ex_goto 4 d_se_leastCostOn_52 rfl ?_
              have z : lcS K (fS F f) (k + 1) = some v := by first | exact lc_l (by omega) hr (by omega) | (rw [lcz_0 (by omega)]; exact hr)
              rw [z, show vN (some v) = (v : Int) from rfl, ← nIJ] at ih1
              exact ih1
            · refine Ex_aload_n d_se_leastCostOn_40 rfl ?_
              refine Ex_getR (v := .ref 1) d_se_leastCostOn_41 pf_se_24 rfl (t_18 hs) (r_18_1 hs) ?_
              refine Ex_iload_n d_se_leastCostOn_44 rfl ?_
              refine Ex_pV1 (v := .int (nI (kC K k))) d_se_leastCostOn_45 pk_se_leastCostOn_86 (t_1 hs) (ki_costOf_s hs hK hO (by omega)) ?_
              refine Ex_istore_n [some (.ref 18), some (.ref (A)), some (.int (nI (kC K k))), some (.int (nI (k)))] d_se_leastCostOn_48 (Nat.le_of_ble_eq_true rfl) rfl ?_
              refine Ex_iincN (k) 1 [some (.ref 18), some (.ref (A)), some (.int (nI (kC K k))), some (.int (nI (k + 1)))] d_se_leastCostOn_49 rfl rfl rfl rfl ?_
              refine Ex_goto 4 d_se_leastCostOn_52 rfl ?_
              rw [lc_g (by omega) hr (by omega), show vN (some (kC K k)) = (kC K k : Int) from rfl, ← nIJ] at ih1
              exact ih1
theorem se_leastCostOn_s {S : mj_S} {h : mj_H} (hs : HT h) {K : SK} (hK : KC K h) (hO : KO K) {F : SF} {Y : OW} (hFO : FO K.1 F) {f A B C D : Nat} (hf : f < F.1) (hx : FlC1 F Y h f A B C D) : Cl S se_leastCostOn [.ref 18, .ref (A)] h (Pu (.int (nI ((lcS K (fS F f) K.1).getD 0))) h) := by
  show Ex S se_leastCostOn 0 [some (.ref 18), some (.ref (A)), none, none] [] h _
  refine Ex_iconst d_se_leastCostOn_0 ic_m1 ?_
  refine Ex_istore_n [some (.ref 18), some (.ref (A)), some (.int (-1)), none] d_se_leastCostOn_1 (Nat.le_of_ble_eq_true rfl) rfl ?_
  refine Ex_iconst d_se_leastCostOn_2 ic_0 ?_
  refine Ex_istore_n [some (.ref 18), some (.ref (A)), some (.int (-1)), some (.int (0))] d_se_leastCostOn_3 (Nat.le_of_ble_eq_true rfl) rfl ?_
  exact se_leastCostOn_L hs hK hO hFO hf hx K.1 0 (by omega)
theorem se_noteFill_p {S : mj_S} {h : mj_H} (hs : HT h) {n : Nat} (hn : n ≤ 40) {F : SF} {Y : OW} (hFO : FO n F) {f A B C D : Nat} (hf : f < F.1) {L G : Nat → Pl} (hL : okLy n L) (hG : okLy n G) {e0 : Nat} (he0 : e0 ≤ 600000) (hB : BcC F f L h) (hx : FlC1 (setF F f G e0) Y h f A B C D) {z c0 : Nat} (hz : mI h 18 10 = nI z) (hc0 : mI h 18 7 = nI c0) : Cl S se_noteFill [.ref 18, .ref (A)] h (fun r h' => r = none ∧ FlC1 (setF F f (shL F f L) e0) Y h' f A B C D ∧ Fr (fun x _ => x = C) (wI (wI h 18 10 (nI (z + 1))) 18 11 (nI c0)) h') := by
  show Ex S se_noteFill 0 [some (.ref 18), some (.ref (A))] [] h _
  have f1 : Fr (fun a k => a = 18) h (wI (wI h 18 10 (nI (z + 1))) 18 11 (nI c0)) := (Fr.rf.sI (W := fun a k => a = 18) rfl).sI (W := fun a k => a = 18) rfl
  have hB2 : BcC F f L (wI (wI h 18 10 (nI (z + 1))) 18 11 (nI c0)) := BcC_fr hs f1 (by omega) (by omega) hB
  have hx2 : FlC1 (setF F f G e0) Y (wI (wI h 18 10 (nI (z + 1))) 18 11 (nI c0)) f A B C D := FlC1_lo hs f1 (by omega) hx
  refine Ex_aload_n d_se_noteFill_0 rfl ?_
  refine Ex_dup rfl d_se_noteFill_1 ?_
  refine Ex_getIE (y := (nI (z))) d_se_noteFill_2 pf_se_68 rfl (t_18 hs) hz ?_
  refine Ex_iconst d_se_noteFill_5 ic_1 ?_
  refine Ex_iaddN (z) (1) d_se_noteFill_6 rfl rfl ?_
  refine Ex_putI d_se_noteFill_7 pf_se_68 (Or.inl rfl) (t_18 hs) (Or.inl rfl) ?_
  refine Ex_aload_n d_se_noteFill_10 rfl ?_
  refine Ex_aload_n d_se_noteFill_11 rfl ?_
  refine Ex_getIE (y := (nI (c0))) d_se_noteFill_12 pf_se_58 rfl (t_18 hs) (by rw [mI_oth (Or.inr (by decide))]; exact hc0) ?_
  refine Ex_putI d_se_noteFill_15 pf_se_71 (Or.inl rfl) (t_18 hs) (Or.inl rfl) ?_
  refine Ex_aload_n d_se_noteFill_18 rfl ?_
  refine Ex_getR (v := .ref 7) d_se_noteFill_19 pf_se_20 rfl (t_18 hs) (r_18_0 hs) ?_
  refine Ex_aload_n d_se_noteFill_22 rfl ?_
  refine Ex_cV1 d_se_noteFill_23 pk_se_noteFill_147 (t_7 hs) (bo_showOn_s (h := (wI (wI h 18 10 (nI (z + 1))) 18 11 (nI c0))) (n := n) hs hn hFO hf hL hG (x := e0) he0 hB2 hx2) ?_
  rintro rv h2 ⟨rfl, w1, w2⟩
  show Ex S se_noteFill 26 [some (.ref 18), some (.ref (A))] [] h2 _
  refine Ex_return d_se_noteFill_26 rfl ?_
  exact ⟨rfl, w1, w2⟩
theorem se_explore_R {S : mj_S} {h : mj_H} (hs : HT h) {K : SK} (hK : KC K h) (hO : KO K) {F : SF} (hFO : FO K.1 F) {f : Nat} (hf : f < F.1) {n : Nat} {o : Nat → Nat} (hE : EnO (opF F f) 64 n o) {s : Nat} {cd : Nat → Nat} {w : Nat} (hw : 1 ≤ w ∧ w < 2147483648) {y : Bool} {a : Nat} (ha : a ≤ 1000) {Y : OW} {A B C D : Nat} (hx : FlC1 (setF F f nL0 (fE F)) Y h f A B C D) (hB : BS K F f s cd nL0 (fS F f) h) (h71 : mI h 7 1 = nI n) (hZF : ZF (fE F) y a (Zi F f 0) h) {b : Nat} (hb : npS K F f nL0 (fS F f) = some b) (hb2 : b < 64 ∧ opF F f b) (hn0 : 0 < n) : Ex S se_explore 27 [some (.ref 18), some (.ref (A)), some (.int (nI (w))), none, none] [] h (fun r h' => r = none ∧ sX F f (fE F) Y A B C D (rnS K F f n w y a 60002 (Zi F f b)) h h') := by
  have hn4 := HT_n hs
  have f1 : Fr (fun a k => (a = 18 ∧ k = 4) ∨ a = 19 ∨ a = 20) h (wI (wI (wI h 18 4 (nI 0)) 19 0 (nI b)) 20 0 (-1)) := ((Fr.rf.sI (Or.inl ⟨rfl, rfl⟩)).sI (Or.inr (Or.inl rfl))).sI (Or.inr (Or.inr rfl))
  obtain ⟨⟨b1, b2, b3⟩, ⟨b4, b5⟩, b6, b7, b8⟩ := hZF
  have hZC : ZC K F f n s cd (fE F) y a Y A B C D (Zi F f b) (wI (wI (wI h 18 4 (nI 0)) 19 0 (nI b)) 20 0 (-1)) := by
    refine ⟨BS_fr hs f1 (by omega) hB, ⟨?_, fun i hi => ?_⟩, ⟨⟨?_, ?_, ?_⟩, ⟨?_, ?_⟩, ?_, ?_, ?_⟩, FlC1_lo hs f1 (by omega) hx, rfl⟩
    · rw [f1.I (by omega) (by omega)]; exact h71
    · obtain rfl : i = 0 := Nat.le_zero.mp hi
      rw [mI_oth (Or.inl (by decide)), mI_self, mI_self]
      exact ⟨rfl, Or.inl ⟨rfl, rfl⟩⟩
    · rw [f1.I (by omega) (by omega)]; exact b1
    · rw [f1.I (by omega) (by omega)]; exact b2
    · rw [f1.I (by omega) (by omega)]; exact b3
    · rw [f1.I (by omega) (by omega)]; exact b4
    · rw [f1.I (by omega) (by omega)]; exact b5
    · rw [f1.I (by omega) (by omega)]; exact b6
    · rw [f1.I (by omega) (by omega)]; exact b7
    · rw [f1.I (by omega) (by omega)]; exact b8
  refine Ex_aload_n d_se_explore_27 rfl ?_
  refine Ex_iconst d_se_explore_28 ic_0 ?_
  refine Ex_cV1 d_se_explore_29 pk_se_explore_102 (t_18 hs) (se_openDepth_s hs hO (okLy_0 _) (fun k => Nat.le_refl _) hB (v := 0) (by decide) hb) ?_
  rintro rv hg ⟨rfl, rfl⟩
  show Ex S se_explore 32 [some (.ref 18), some (.ref (A)), some (.int (nI (w))), none, none] [] (wI (wI (wI h 18 4 (nI 0)) 19 0 (nI b)) 20 0 (-1)) _
  refine Ex_iconst d_se_explore_32 ic_0 ?_
  refine Ex_istore_n [some (.ref 18), some (.ref (A)), some (.int (nI (w))), some (.int (0)), none] d_se_explore_33 (Nat.le_of_ble_eq_true rfl) rfl ?_
  refine se_explore_T hs hK hO hFO hf hE hw.2 ha hx.1.2.2.1.1 60002 (Zi F f b) _ 0 (zO_0 hFO hn0 hb2) (show 2 * (30000 - 0) + 0 < 60002 by decide) hw.1 hZC (by rw [mI_oth (Or.inl (by decide)), mI_oth (Or.inl (by decide)), mI_self]; rfl) (f1.mono (by intro a k; unfold WSr; omega)) (by decide)
theorem FlC1_sn {F : SF} {Y : OW} {f : Nat} {h : mj_H} {A B C D : Nat} (z : FlC1 F Y h f A B C D) (x : Nat) : FlC1 (setF F f nL0 x) Y (wA h C (flF (mI h C) (-1) 64)) f A B C D := by
  have ne := Fl_ne z
  obtain ⟨z1, z2, z3, z4, z5⟩ := z
  have o : ∀ a k, a ≠ C → mI (wA h C (flF (mI h C) (-1) 64)) a k = mI h a k := fun a k ha => by rw [mI_wA, if_neg ha]
  refine ⟨z1, z2, ⟨?_, ?_⟩, fun j hj => ⟨?_, ?_⟩, fun j hj => ?_⟩
  · rw [o _ _ (by omega)]; exact z3.1
  · rw [o _ _ (by omega)]; exact z3.2
  · rw [o _ _ (by omega)]; exact (z4 j hj).1
  · rw [show fL (setF F f nL0 x) f = nL0 from if_pos rfl, mI_wA, if_pos rfl, flF_in hj]; rfl
  · rw [o _ _ (by omega)]; exact z5 j hj
theorem Fr_sn {h : mj_H} {C : Nat} {g : Nat → Int32} : Fr (fun x _ => x = C) h (wA h C g) := Fr.rf.sA (fun k z => absurd rfl z)
theorem ps_a {K : SK} {n a a' : Nat} {Z : ZS} : psB K n false a Z = psB K n false a' Z := by
  funext x
  unfold psB
  exact decide_eq_decide.mpr ⟨fun z => absurd z.1 (by decide), fun z => absurd z.1 (by decide)⟩
theorem nx_a {K : SK} {F : SF} {f n a a' : Nat} {Z : ZS} : nxS K F f n false a Z = nxS K F f n false a' Z := by
  unfold nxS
  rw [ps_a (a' := a')]
theorem tn_a {K : SK} {F : SF} {f n w a a' : Nat} {Z : ZS} : tnS K F f n w false a Z = tnS K F f n w false a' Z := by
  unfold tnS
  rw [nx_a (a' := a')]
theorem rn_a {K : SK} {F : SF} {f n w a a' : Nat} : ∀ (N : Nat) (Z : ZS), rnS K F f n w false a N Z = rnS K F f n w false a' N Z
  | 0, _ => rfl
  | N + 1, Z => by
    unfold rnS
    rw [tn_a (a' := a')]
    rcases (tnS K F f n w false a' Z).2 with _ | b
    · exact rn_a N _
    · rfl
theorem rn_lc {K : SK} {F : SF} {f n w : Nat} {y : Bool} {N : Nat} {Z : ZS} : rnS K F f n w y ((lcS K (fS F f) K.1).getD 0) N Z = rnS K F f n w y (lcA K F f y) N Z := by
  cases y
  · exact rn_a N Z
  · rfl
