/-! The class: a row of its own, the history, patterns made. -/
theorem set_ge {l : List Nat} {i x k : Nat} (hi : i < l.length) (hk : k < l.length) : (l.set i x).getD k 0 = if k = i then x else l.getD k 0 := set_get hi
theorem WRn_st : ∀ q ∈ statR, ¬ WRn q.1 q.2.1 := by unfold WRn WRe Wal; decide
theorem pa_renewRow_s {S : mj_S} {h : mj_H} (hs : HT h) {P : SP} {Y : OW} (hR : RwC P Y h) {n : Nat} (hQ : PO n P) {a b : Nat} {l : List Nat} (hB : Pob h a b l) (hl : okL (pMd P) l) (hm : pMd P < 6000) {i : Nat} (hi : i < l.length) (ha : 74 ≤ a) (hb : 74 ≤ b ∧ (Y b).1 = 2) : Cl S pa_renewRow [.ref (a), .int (nI (i))] h (fun r h' => r = some (.int (nI (pMd P))) ∧ (∃ Y', OwE h Y Y' ∧ RwC (newR P (pL P (l.getD i 0)) (pO P (l.getD i 0)) (pC P (l.getD i 0))) Y' h') ∧ Pob h' a b (l.set i (pMd P)) ∧ Fr (fun x k => WRn x k ∨ x = b) h h' ∧ Gr 1 60 h h') := by
  show Ex S pa_renewRow 0 [some (.ref (a)), some (.int (nI (i))), none] [] h _
  have hl60 := hl.1
  obtain ⟨q, hid, hq, hql⟩ := idS_in hl (i := (i : Int)) (by omega)
  rw [Int.toNat_natCast] at hql
  rw [← hql]
  obtain ⟨x, h1⟩ := hR.2 q hq
  have hs1 : ∀ h9, Fr WRn h h9 → HT h9 := fun h9 f => f.ht hs WRn_st
  refine Ex_aload_n d_pa_renewRow_0 rfl ?_
  refine Ex_getR d_pa_renewRow_1 pf_pa_15 rfl hB.1.1 (congrArg va_rf hB.1.2.1) ?_
  refine Ex_aload_n d_pa_renewRow_4 rfl ?_
  refine Ex_iload_n d_pa_renewRow_5 rfl ?_
  refine Ex_i2lZ (((i : Nat) : Int)) d_pa_renewRow_6 (nIJ _) (by omega) ?_
  refine Ex_pV1 d_pa_renewRow_7 pk_pa_renewRow_27 hB.1.1 (show Cl S pa_idAt _ h (Pu (.int (nI q)) h) by rw [nIJ, ← hid]; exact pa_idAt_s hB hl.1 (by omega)) ?_
  refine Ex_cV1 d_pa_renewRow_10 pk_pa_renewRow_50 (t_21 hs) (rs_makeLike_s hs hR hQ hm hq h1) ?_
  rintro rv h9 ⟨rfl, ⟨Y1, oY, hR1⟩, f1, g1⟩
  have hB1 : Pob h9 a b l := Pob_fr f1 (fun k => by unfold WRn WRe Wal; omega) (fun k => by unfold WRn WRe Wal; omega) hB
  have hmd := hQ.1
  show Ex S pa_renewRow 13 [some (.ref (a)), some (.int (nI (i))), none] [.int (nI (pMd P))] h9 _
  refine Ex_istore_n [some (.ref (a)), some (.int (nI (i))), some (.int (nI (pMd P)))] d_pa_renewRow_13 (Nat.le_of_ble_eq_true rfl) rfl ?_
  refine Ex_aload_n d_pa_renewRow_14 rfl ?_
  refine Ex_iload_n d_pa_renewRow_15 rfl ?_
  refine Ex_i2lZ (((i : Nat) : Int)) d_pa_renewRow_16 (nIJ _) (by omega) ?_
  refine Ex_pV1 d_pa_renewRow_17 pk_pa_renewRow_23 hB1.1.1 (pa_hasRow_s hB1 hl.1 (by omega)) ?_
  refine Ex_if_eqB (decide (0 ≤ (i : Int) ∧ (i : Int) < l.length)) 35 d_pa_renewRow_20 rfl rfl (fun hc20 => ?_) (fun hc20 => ?_)
  · rw [decide_eq_false_iff_not] at hc20
    exfalso; omega
  · rw [decide_eq_true_eq] at hc20
    refine Ex_iload_n d_pa_renewRow_23 rfl ?_
    refine Ex_iconst d_pa_renewRow_24 ic_m1 ?_
    refine Ex_icmp_eqZ (((pMd P : Nat) : Int)) ((-1)) 35 d_pa_renewRow_25 rfl (nIJ _) (by decide) (by omega) (by omega) (fun hc25 => ?_) (fun hc25 => ?_)
    · exfalso; omega
    · refine Ex_aload_n d_pa_renewRow_28 rfl ?_
      refine Ex_getR d_pa_renewRow_29 pf_pa_11 rfl hB1.1.1 (congrArg va_rf hB1.1.2.2.1) ?_
      refine Ex_iload_n d_pa_renewRow_32 rfl ?_
      refine Ex_iload_n d_pa_renewRow_33 rfl ?_
      refine Ex_iastoreN (a := i) d_pa_renewRow_34 hB1.1.2.2.2 rfl (by omega) (by omega) ?_
      refine Ex_iload_n d_pa_renewRow_35 rfl ?_
      refine Ex_ireturn d_pa_renewRow_36 rfl ?_
      have hab := Pob_ne hB1
      have hn9 := mT_lt hB.1.2.2.2
      have f2 : Fr (fun x _ => x = b) h9 (wI h9 b i (nI (pMd P))) := Fr.sI Fr.rf rfl
      refine ⟨rfl, ⟨Y1, oY, RwC_fr (hs1 h9 f1) f2 (fun x k hx hxb => ?_) OwE.rf hR1⟩, ⟨⟨hB1.1.1, hB1.1.2.1, hB1.1.2.2.1, hB1.1.2.2.2⟩, ?_, fun k hk => ?_⟩, (f1.mono (fun _ _ => Or.inl)).tr (f2.mono (fun _ _ => Or.inr)), g1.tr (Gr.of f2 (by omega))⟩
      · subst hxb
        unfold WRc at hx
        rw [oY x hn9] at hx
        have := hb.2
        omega
      · rw [mI_wI, if_neg hab, List.length_set]
        exact hB1.2.1
      · rw [List.length_set] at hk
        rw [set_get hi, mI_wI, if_pos rfl]
        by_cases hki : k = i
        · rw [if_pos hki, if_pos hki]
        · rw [if_neg hki, if_neg hki]
          exact hB1.2.2 k hk
theorem hi_remember_s {S : mj_S} {h : mj_H} (hs : HT h) {P : SP} (hH : HiC P h) {n : Nat} (hQ : PO n P) {a b : Nat} {l : List Nat} (hB : Pob h a b l) (h60 : l.length ≤ 60) (ha : 74 ≤ a) (hb : 74 ≤ b) {p : Nat} : Cl S hi_remember [.ref 25, .int (nI (p)), .ref (a)] h (fun r h' => r = none ∧ HiC (uHi P (((p, l) :: pHi P).take 40)) h' ∧ Fr WHc h h') := by
  show Ex S hi_remember 0 [some (.ref 25), some (.int (nI (p))), some (.ref (a))] [] h _
  have hh40 := hQ.2.2.2.2.1
  obtain ⟨hl0, ua, hu, hr⟩ := hH
  have hua := hr.1
  refine Ex_aload_n d_hi_remember_0 rfl ?_
  refine Ex_getR d_hi_remember_1 pf_hi_11 rfl (t_25 hs) (r_25_2 hs) ?_
  refine Ex_aload_n d_hi_remember_4 rfl ?_
  refine Ex_getIE d_hi_remember_5 pf_hi_23 rfl (t_25 hs) hu ?_
  refine Ex_iload_n d_hi_remember_8 rfl ?_
  refine Ex_iastoreN (a := ua) d_hi_remember_9 (t_26 hs) rfl (by omega) (by decide) ?_
  refine Ex_aload_n d_hi_remember_10 rfl ?_
  refine Ex_getR d_hi_remember_11 pf_hi_15 rfl (t_25 hs) (r_25_3 hs) ?_
  refine Ex_aload_n d_hi_remember_14 rfl ?_
  refine Ex_getIE d_hi_remember_15 pf_hi_23 rfl (t_25 hs) hu ?_
  refine Ex_aload_n d_hi_remember_18 rfl ?_
  refine Ex_getIE (y := (nI (l.length))) d_hi_remember_19 pf_hi_27 rfl hB.1.1 (by rw [mI_wI, if_neg (by omega)]; exact hB.2.1) ?_
  refine Ex_iastoreN (a := ua) d_hi_remember_22 (t_27 hs) rfl (by omega) (by decide) ?_
  refine Ex_aload_n d_hi_remember_23 rfl ?_
  refine Ex_getR d_hi_remember_24 pf_hi_30 rfl hB.1.1 (congrArg va_rf hB.1.2.2.1) ?_
  refine Ex_iconst d_hi_remember_27 ic_0 ?_
  refine Ex_aload_n d_hi_remember_28 rfl ?_
  refine Ex_getR d_hi_remember_29 pf_hi_20 rfl (t_25 hs) (r_25_4 hs) ?_
  refine Ex_aload_n d_hi_remember_32 rfl ?_
  refine Ex_getIE d_hi_remember_33 pf_hi_23 rfl (t_25 hs) hu ?_
  refine Ex_bipush d_hi_remember_36 bp_60 ?_
  refine Ex_imulN (ua) (60) d_hi_remember_38 rfl rfl ?_
  refine Ex_bipush d_hi_remember_39 bp_60 ?_
  refine Ex_acN (0) (ua * 60) (60) d_hi_remember_41 pm_hi_31 rfl ⟨Nat.le_of_ble_eq_true rfl, Nat.le_of_ble_eq_true rfl⟩ hB.1.2.2.2 (t_28 hs) rfl rfl rfl (by omega) (by omega) (by decide) (by decide) ?_
  refine Ex_aload_n d_hi_remember_44 rfl ?_
  refine Ex_aload_n d_hi_remember_45 rfl ?_
  refine Ex_getIE d_hi_remember_46 pf_hi_23 rfl (t_25 hs) hu ?_
  refine Ex_iconst d_hi_remember_49 ic_1 ?_
  refine Ex_iaddN (ua) (1) d_hi_remember_50 rfl rfl ?_
  refine Ex_bipush d_hi_remember_51 bp_40 ?_
  refine Ex_icmp_geN (ua + 1) (40) 65 d_hi_remember_53 rfl rfl rfl (by omega) (by omega) (fun hc53 => ?_) (fun hc53 => ?_)
  · refine Ex_iconst d_hi_remember_65 ic_0 ?_
    refine Ex_putI d_hi_remember_66 pf_hi_23 (Or.inl rfl) (t_25 hs) (Or.inl rfl) ?_
    refine Ex_aload_n d_hi_remember_69 rfl ?_
    refine Ex_bipush d_hi_remember_70 bp_40 ?_
    refine Ex_aload_n d_hi_remember_72 rfl ?_
    refine Ex_getIE d_hi_remember_73 pf_hi_37 rfl (t_25 hs) hl0 ?_
    refine Ex_iconst d_hi_remember_76 ic_1 ?_
    refine Ex_iaddN ((pHi P).length) (1) d_hi_remember_77 rfl rfl ?_
    refine Ex_pS2 d_hi_remember_78 pk_hi_remember_40 (jd_min_s (a := 40) (b := (pHi P).length + 1) (by omega) (by omega)) ?_
    refine Ex_putI d_hi_remember_81 pf_hi_37 (Or.inl rfl) (t_25 hs) (Or.inl rfl) ?_
    refine Ex_return d_hi_remember_84 rfl ?_
    refine ⟨rfl, ⟨?_, (ua + 1) % 40, ?_, ?_⟩, Fr.sI (Fr.sI (Fr.sA (Fr.sI (Fr.sI Fr.rf ?_) ?_) ?_) ?_) ?_⟩
    · rw [mI_wI, if_pos rfl, if_pos rfl]
      show _ = nI (((p, l) :: pHi P).take 40).length
      rw [List.length_take, List.length_cons]
    · rw [mI_wI, if_pos rfl, if_neg (by omega), mI_wI, if_pos rfl, if_pos rfl]
      exact (show nI 0 = _ from congrArg nI (show 0 = (ua + 1) % 40 by omega))
    · refine ring_push (q := (p, l)) hr hh40 h60 ⟨?_, fun x hx => ?_⟩ ⟨?_, fun x hx => ?_⟩ ⟨fun i hi => ?_, fun x i hx hi => ?_⟩ (fun q hq => (hQ.2.2.2.2.2 q hq).2.1)
      · simp [mI_wI, mI_wA]
      · simp [mI_wI, mI_wA, hx]
      · simp [mI_wI, mI_wA]
      · simp [mI_wI, mI_wA, hx]
      · rw [mI_wI, if_neg (by omega), mI_wI, if_neg (by omega), mI_wA, if_pos rfl]
        have hi : i < l.length := hi
        unfold va_cpy
        rw [if_pos (by omega), Nat.zero_add, show 60 * ua + i - ua * 60 = i by omega, mI_wI, if_neg (by omega), mI_wI, if_neg (by omega)]
        exact hB.2.2 i hi
      · rw [mI_wI, if_neg (by omega), mI_wI, if_neg (by omega), mI_wA, if_pos rfl]
        unfold va_cpy
        rw [if_neg (by omega)]
        rfl
    · unfold WHc; omega
    · unfold WHc; omega
    · intro k hk; exact absurd (show WHc 28 k by unfold WHc; omega) hk
    · unfold WHc; omega
    · unfold WHc; omega
  · refine Ex_aload_n d_hi_remember_56 rfl ?_
    refine Ex_getIE d_hi_remember_57 pf_hi_23 rfl (t_25 hs) hu ?_
    refine Ex_iconst d_hi_remember_60 ic_1 ?_
    refine Ex_iaddN (ua) (1) d_hi_remember_61 rfl rfl ?_
    refine Ex_goto 66 d_hi_remember_62 rfl ?_
    refine Ex_putI d_hi_remember_66 pf_hi_23 (Or.inl rfl) (t_25 hs) (Or.inl rfl) ?_
    refine Ex_aload_n d_hi_remember_69 rfl ?_
    refine Ex_bipush d_hi_remember_70 bp_40 ?_
    refine Ex_aload_n d_hi_remember_72 rfl ?_
    refine Ex_getIE d_hi_remember_73 pf_hi_37 rfl (t_25 hs) hl0 ?_
    refine Ex_iconst d_hi_remember_76 ic_1 ?_
    refine Ex_iaddN ((pHi P).length) (1) d_hi_remember_77 rfl rfl ?_
    refine Ex_pS2 d_hi_remember_78 pk_hi_remember_40 (jd_min_s (a := 40) (b := (pHi P).length + 1) (by omega) (by omega)) ?_
    refine Ex_putI d_hi_remember_81 pf_hi_37 (Or.inl rfl) (t_25 hs) (Or.inl rfl) ?_
    refine Ex_return d_hi_remember_84 rfl ?_
    refine ⟨rfl, ⟨?_, (ua + 1) % 40, ?_, ?_⟩, Fr.sI (Fr.sI (Fr.sA (Fr.sI (Fr.sI Fr.rf ?_) ?_) ?_) ?_) ?_⟩
    · rw [mI_wI, if_pos rfl, if_pos rfl]
      show _ = nI (((p, l) :: pHi P).take 40).length
      rw [List.length_take, List.length_cons]
    · rw [mI_wI, if_pos rfl, if_neg (by omega), mI_wI, if_pos rfl, if_pos rfl]
      exact congrArg nI (show ua + 1 = (ua + 1) % 40 by omega)
    · refine ring_push (q := (p, l)) hr hh40 h60 ⟨?_, fun x hx => ?_⟩ ⟨?_, fun x hx => ?_⟩ ⟨fun i hi => ?_, fun x i hx hi => ?_⟩ (fun q hq => (hQ.2.2.2.2.2 q hq).2.1)
      · simp [mI_wI, mI_wA]
      · simp [mI_wI, mI_wA, hx]
      · simp [mI_wI, mI_wA]
      · simp [mI_wI, mI_wA, hx]
      · rw [mI_wI, if_neg (by omega), mI_wI, if_neg (by omega), mI_wA, if_pos rfl]
        have hi : i < l.length := hi
        unfold va_cpy
        rw [if_pos (by omega), Nat.zero_add, show 60 * ua + i - ua * 60 = i by omega, mI_wI, if_neg (by omega), mI_wI, if_neg (by omega)]
        exact hB.2.2 i hi
      · rw [mI_wI, if_neg (by omega), mI_wI, if_neg (by omega), mI_wA, if_pos rfl]
        unfold va_cpy
        rw [if_neg (by omega)]
        rfl
    · unfold WHc; omega
    · unfold WHc; omega
    · intro k hk; exact absurd (show WHc 28 k by unfold WHc; omega) hk
    · unfold WHc; omega
    · unfold WHc; omega
theorem hi_latest_s {S : mj_S} {h : mj_H} (hs : HT h) {ua : Nat} (hua : ua < 40) (hu : mI h 25 1 = nI ua) : Cl S hi_latest [.ref 25] h (Pu (.int (nI ((ua + 39) % 40))) h) := by
  show Ex S hi_latest 0 [some (.ref 25)] [] h _
  refine Ex_aload_n d_hi_latest_0 rfl ?_
  refine Ex_getIE d_hi_latest_1 pf_hi_23 rfl (t_25 hs) hu ?_
  refine Ex_if_leN (ua) 16 d_hi_latest_4 rfl rfl (by omega) (fun hc4 => ?_) (fun hc4 => ?_)
  · refine Ex_bipush d_hi_latest_16 bp_39 ?_
    refine Ex_ireturn d_hi_latest_18 rfl ?_
    exact Pu_i (show nI 39 = _ from congrArg nI (by omega))
  · refine Ex_aload_n d_hi_latest_7 rfl ?_
    refine Ex_getIE d_hi_latest_8 pf_hi_23 rfl (t_25 hs) hu ?_
    refine Ex_iconst d_hi_latest_11 ic_1 ?_
    refine Ex_isubN (ua) (1) d_hi_latest_12 rfl rfl (by omega) ?_
    refine Ex_goto 18 d_hi_latest_13 rfl ?_
    refine Ex_ireturn d_hi_latest_18 rfl ?_
    exact Pu_n (by omega)
theorem hi_latestPattern_s {S : mj_S} {h : mj_H} (hs : HT h) {P : SP} (hH : HiC P h) {n : Nat} (hQ : PO n P) {q : Nat × List Nat} {l : List (Nat × List Nat)} (hh : pHi P = q :: l) : Cl S hi_latestPattern [.ref 25] h (Pu (.int (nI q.1)) h) := by
  show Ex S hi_latestPattern 0 [some (.ref 25)] [] h _
  have hh40 := hQ.2.2.2.2.1
  obtain ⟨hl0, ua, hu, hr⟩ := hH
  have hua := hr.1
  rw [hh] at hr hh40
  obtain ⟨⟨f1, f2, f3⟩, hr2⟩ := ring_pop hr hh40
  obtain ⟨x, hx⟩ : ∃ x, (ua + 39) % 40 = x := ⟨_, rfl⟩
  have hx40 : x < 40 := by omega
  rw [hx] at f1 f2 f3 hr2
  have hll : (pHi P).length = l.length + 1 := by rw [hh]; rfl
  have hh40 : (pHi P).length ≤ 40 := hQ.2.2.2.2.1
  refine Ex_aload_n d_hi_latestPattern_0 rfl ?_
  refine Ex_getIE d_hi_latestPattern_1 pf_hi_37 rfl (t_25 hs) hl0 ?_
  refine Ex_if_leN ((pHi P).length) 19 d_hi_latestPattern_4 rfl rfl (by omega) (fun hc4 => ?_) (fun hc4 => ?_)
  · exfalso; omega
  · refine Ex_aload_n d_hi_latestPattern_7 rfl ?_
    refine Ex_getR d_hi_latestPattern_8 pf_hi_11 rfl (t_25 hs) (r_25_2 hs) ?_
    refine Ex_aload_n d_hi_latestPattern_11 rfl ?_
    refine Ex_pV0 d_hi_latestPattern_12 pk_hi_latestPattern_46 (t_25 hs) (show Cl S hi_latest _ h (Pu (.int (nI x)) h) by rw [← hx]; exact hi_latest_s hs hua hu) ?_
    refine Ex_ialoadN (a := x) d_hi_latestPattern_15 (t_26 hs) rfl (by omega) (by decide) f1 ?_
    refine Ex_goto 20 d_hi_latestPattern_16 rfl ?_
    refine Ex_ireturn d_hi_latestPattern_20 rfl ?_
    exact Pu_n rfl
theorem hi_giveBack_s {S : mj_S} {h : mj_H} (hs : HT h) {P : SP} (hH : HiC P h) {n : Nat} (hQ : PO n P) {q : Nat × List Nat} {l : List (Nat × List Nat)} (hh : pHi P = q :: l) {a b : Nat} {l0 : List Nat} (hB : Pob h a b l0) (ha : 74 ≤ a) (hb : 74 ≤ b) : Cl S hi_giveBack [.ref 25, .ref (a)] h (fun r h' => r = none ∧ HiC (uHi P l) h' ∧ Pob h' a b q.2 ∧ Fr (fun x k => WHc x k ∨ Wab a b x k) h h') := by
  show Ex S hi_giveBack 0 [some (.ref 25), some (.ref (a))] [] h _
  have hh40 := hQ.2.2.2.2.1
  obtain ⟨hl0, ua, hu, hr⟩ := hH
  have hua := hr.1
  rw [hh] at hr hh40
  obtain ⟨⟨f1, f2, f3⟩, hr2⟩ := ring_pop hr hh40
  obtain ⟨x, hx⟩ : ∃ x, (ua + 39) % 40 = x := ⟨_, rfl⟩
  have hx40 : x < 40 := by omega
  rw [hx] at f1 f2 f3 hr2
  have hll : (pHi P).length = l.length + 1 := by rw [hh]; rfl
  have hh40 : (pHi P).length ≤ 40 := hQ.2.2.2.2.1
  have hq := hQ.2.2.2.2.2 q (by rw [hh]; exact List.mem_cons_self ..)
  refine Ex_aload_n d_hi_giveBack_0 rfl ?_
  refine Ex_getIE d_hi_giveBack_1 pf_hi_37 rfl (t_25 hs) hl0 ?_
  refine Ex_if_leN ((pHi P).length) 49 d_hi_giveBack_4 rfl rfl (by omega) (fun hc4 => ?_) (fun hc4 => ?_)
  · exfalso; omega
  · refine Ex_aload_n d_hi_giveBack_7 rfl ?_
    refine Ex_aload_n d_hi_giveBack_8 rfl ?_
    refine Ex_pV0 d_hi_giveBack_9 pk_hi_giveBack_46 (t_25 hs) (show Cl S hi_latest _ h (Pu (.int (nI x)) h) by rw [← hx]; exact hi_latest_s hs hua hu) ?_
    refine Ex_putI d_hi_giveBack_12 pf_hi_23 (Or.inl rfl) (t_25 hs) (Or.inl rfl) ?_
    refine Ex_aload_n d_hi_giveBack_15 rfl ?_
    refine Ex_dup rfl d_hi_giveBack_16 ?_
    refine Ex_getIE d_hi_giveBack_17 pf_hi_37 rfl (t_25 hs) hl0 ?_
    refine Ex_iconst d_hi_giveBack_20 ic_1 ?_
    refine Ex_isubN ((pHi P).length) (1) d_hi_giveBack_21 rfl rfl (by omega) ?_
    refine Ex_putI d_hi_giveBack_22 pf_hi_37 (Or.inl rfl) (t_25 hs) (Or.inl rfl) ?_
    refine Ex_aload_n d_hi_giveBack_25 rfl ?_
    refine Ex_aload_n d_hi_giveBack_26 rfl ?_
    refine Ex_getR d_hi_giveBack_27 pf_hi_20 rfl (t_25 hs) (r_25_4 hs) ?_
    refine Ex_aload_n d_hi_giveBack_30 rfl ?_
    refine Ex_getIE d_hi_giveBack_31 pf_hi_23 rfl (t_25 hs) rfl ?_
    refine Ex_bipush d_hi_giveBack_34 bp_60 ?_
    refine Ex_imulN (x) (60) d_hi_giveBack_36 rfl rfl ?_
    refine Ex_aload_n d_hi_giveBack_37 rfl ?_
    refine Ex_getR d_hi_giveBack_38 pf_hi_15 rfl (t_25 hs) (r_25_3 hs) ?_
    refine Ex_aload_n d_hi_giveBack_41 rfl ?_
    refine Ex_getIE d_hi_giveBack_42 pf_hi_23 rfl (t_25 hs) rfl ?_
    refine Ex_ialoadN (a := x) d_hi_giveBack_45 (t_27 hs) rfl (by omega) (by decide) f2 ?_
    have f1 : Fr WHc h (wI (wI h 25 1 (nI x)) 25 0 (nI ((pHi P).length - 1))) := Fr.sI (Fr.sI Fr.rf (by unfold WHc; omega)) (by unfold WHc; omega)
    have hB1 : Pob (wI (wI h 25 1 (nI x)) 25 0 (nI ((pHi P).length - 1))) a b l0 := Pob_fr f1 (fun k => by unfold WHc; omega) (fun k => by unfold WHc; omega) hB
    have hq60 := hq.2.1
    refine Ex_cV3 d_hi_giveBack_46 pk_hi_giveBack_50 hB.1.1 (pa_takeRows_s (h := (wI (wI h 25 1 (nI x)) 25 0 (nI ((pHi P).length - 1)))) (l' := q.2) (s := x * 60) hB1 (t_28 (h := (wI (wI h 25 1 (nI x)) 25 0 (nI ((pHi P).length - 1)))) hs) (by omega) hq.2.1 (by omega) (fun k hk => by rw [Nat.mul_comm]; exact f3 k hk)) ?_
    rintro rv h9 ⟨rfl, z1, z2⟩
    show Ex S hi_giveBack 49 [some (.ref 25), some (.ref (a))] [] h9 _
    refine Ex_return d_hi_giveBack_49 rfl ?_
    refine ⟨rfl, ⟨?_, x, ?_, ?_⟩, z1, (f1.mono (fun _ _ => Or.inl)).tr (z2.mono (fun _ _ => Or.inr))⟩
    · rw [z2.I (a := 25) (k := 0) (by have := HT_n hs; show 25 < mN h; omega) (by unfold Wab; omega), mI_wI, if_pos rfl, if_pos rfl]
      exact congrArg nI (by rw [hll]; rfl)
    · rw [z2.I (a := 25) (k := 1) (by have := HT_n hs; show 25 < mN h; omega) (by unfold Wab; omega)]
      simp [mI_wI]
    · refine ring_cong hr2 (fun k hk => ?_) (fun k hk => ?_) (fun k hk => ?_) (fun y hy => (hQ.2.2.2.2.2 y (by rw [hh]; exact List.mem_cons_of_mem _ hy)).2.1)
      · exact z2.I (a := 26) (by have := HT_n hs; show 26 < mN h; omega) (by unfold Wab; omega)
      · exact z2.I (a := 27) (by have := HT_n hs; show 27 < mN h; omega) (by unfold Wab; omega)
      · exact z2.I (a := 28) (by have := HT_n hs; show 28 < mN h; omega) (by unfold Wab; omega)
theorem pa_init_s {S : mj_S} {h : mj_H} {a : Nat} (ht : mT h a = some (16, 3)) : Cl S pa_init [.ref (a), .ref 21] h (fun r h' => r = none ∧ h' = wR (wR (mNew h 0 60) a 1 (some (mN h))) a 0 (some 21)) := by
  show Ex S pa_init 0 [some (.ref (a)), some (.ref 21)] [] h _
  refine Ex_aload_n d_pa_init_0 rfl ?_
  refine Ex_objInit d_pa_init_1 pm_pa_3 pw_oi pw_oc rfl ⟨Nat.le_of_ble_eq_true rfl, Nat.le_of_ble_eq_true rfl⟩ ?_
  refine Ex_aload_n d_pa_init_4 rfl ?_
  refine Ex_bipush d_pa_init_5 bp_60 ?_
  refine Ex_newarrayN (a := 60) d_pa_init_7 (Or.inl ⟨rfl, rfl⟩) pw_ai rfl (by omega) ?_
  refine Ex_putR (x := (some ((mN h)))) d_pa_init_9 pf_pa_11 (Or.inr ⟨rfl, rfl, _, rfl⟩) rfl (mT_new_old ht) rfl ?_
  refine Ex_aload_n d_pa_init_12 rfl ?_
  refine Ex_aload_n d_pa_init_13 rfl ?_
  refine Ex_putR (x := (some (21))) d_pa_init_14 pf_pa_15 (Or.inr ⟨rfl, rfl, _, rfl⟩) rfl (mT_new_old ht) rfl ?_
  refine Ex_return d_pa_init_17 rfl ?_
  exact ⟨rfl, rfl⟩
theorem to_keep_s {S : mj_S} {h : mj_H} (hs : HT h) {P : SP} {Y : OW} (hP : PaC P Y h) (hn : pNp P < 16) {a b : Nat} {l : List Nat} (hB : Pob h a b l) (hY : 74 ≤ a ∧ 74 ≤ b ∧ Y a = (1, pNp P) ∧ Y b = (2, pNp P)) : Cl S to_keep [.ref 0, .ref (a)] h (fun r h' => r = some (.int (nI (pNp P))) ∧ PaC (newPat P l) Y h' ∧ Fr (fun x k => x = 24 ∨ (x = 0 ∧ k = 3)) h h') := by
  show Ex S to_keep 0 [some (.ref 0), some (.ref (a))] [] h _
  refine Ex_aload_n d_to_keep_0 rfl ?_
  refine Ex_getIE d_to_keep_1 pf_to_128 rfl (t_0 hs) hP.1 ?_
  refine Ex_bipush d_to_keep_4 bp_16 ?_
  refine Ex_icmp_ltN (pNp P) (16) 11 d_to_keep_6 rfl rfl rfl (by omega) (by omega) (fun hc6 => ?_) (fun hc6 => ?_)
  · refine Ex_aload_n d_to_keep_11 rfl ?_
    refine Ex_getR d_to_keep_12 pf_to_48 rfl (t_0 hs) (r_0_2 hs) ?_
    refine Ex_aload_n d_to_keep_15 rfl ?_
    refine Ex_getIE d_to_keep_16 pf_to_128 rfl (t_0 hs) hP.1 ?_
    refine Ex_aload_n d_to_keep_19 rfl ?_
    refine Ex_aastoreN (a := pNp P) (ci := 6) d_to_keep_20 (t_24 hs) (by decide) hB.1.1 (by decide) rfl (by omega) (by decide) ?_
    have hs1 : HT (wR h 24 (pNp P) (some (a))) := HT_wR hs (by omega)
    refine Ex_aload_n d_to_keep_21 rfl ?_
    refine Ex_dup rfl d_to_keep_22 ?_
    refine Ex_getIE d_to_keep_23 pf_to_128 rfl (t_0 hs1) hP.1 ?_
    refine Ex_iconst d_to_keep_26 ic_1 ?_
    refine Ex_iaddN (pNp P) (1) d_to_keep_27 rfl rfl ?_
    refine Ex_putI d_to_keep_28 pf_to_128 (Or.inl rfl) (t_0 hs1) (Or.inl rfl) ?_
    refine Ex_aload_n d_to_keep_31 rfl ?_
    refine Ex_getIE d_to_keep_32 pf_to_128 rfl (t_0 hs1) rfl ?_
    refine Ex_iconst d_to_keep_35 ic_1 ?_
    refine Ex_isubN (pNp P + 1) (1) d_to_keep_36 rfl rfl (by omega) ?_
    refine Ex_ireturn d_to_keep_37 rfl ?_
    have fr : Fr (fun x k => x = 24 ∨ (x = 0 ∧ k = 3)) h (wI (wR h 24 (pNp P) (some a)) 0 3 (nI (pNp P + 1))) := Fr.sI (Fr.sR Fr.rf (Or.inl rfl)) (Or.inr ⟨rfl, rfl⟩)
    refine ⟨by rw [show pNp P + 1 - 1 = pNp P by omega], ⟨rfl, fun p hp => ?_⟩, fr⟩
    have hp : p < pNp P + 1 := hp
    by_cases hpn : p = pNp P
    · subst hpn
      refine ⟨a, b, hY, ?_, ?_⟩
      · show mR (wR h 24 (pNp P) (some a)) 24 (pNp P) = _
        rw [mR_wR, if_pos rfl]
        unfold va_up
        rw [if_pos rfl]
      · have e0 : pPat (newPat P l) (pNp P) = l := by
          show va_up (pPat P) (pNp P) l (pNp P) = l
          unfold va_up
          rw [if_pos rfl]
        rw [e0]
        exact Pob_fr fr (fun k => by omega) (fun k => by omega) hB
    · obtain ⟨x, y, y1, y2, y3⟩ := hP.2 p (by omega)
      have e0 : pPat (newPat P l) p = pPat P p := by
        show va_up (pPat P) (pNp P) l p = _
        unfold va_up
        rw [if_neg hpn]
      refine ⟨x, y, y1, ?_, ?_⟩
      · show mR (wR h 24 (pNp P) (some a)) 24 p = _
        rw [mR_wR, if_pos rfl]
        unfold va_up
        rw [if_neg hpn]
        exact y2
      · rw [e0]
        have := y1.1
        have := y1.2.1
        exact Pob_fr fr (fun k => by omega) (fun k => by omega) y3
  · exfalso; omega
