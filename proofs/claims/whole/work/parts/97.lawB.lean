/-! THE LAW: both sides answer a call alike. -/
def PRi (S : mj_S) (mc : mj_Y) (a1 : List Value) (mm : mj_Y) (a2 : List Value) (t : Nat) (h : mj_H) : Prop := Cl S mc a1 h (fun r h1 => ∃ x : Int32, r = some (.int x) ∧ HT h1 ∧ Cl S mm a2 h1 (fun r2 h2 => r2 = some (.int x) ∧ LX (t + 1) h2))
def AA (c : Prop) (w v : Int32) (R' : mj_H → Prop) (W : Nat → Nat → Prop) (h : mj_H) : Option Value → mj_H → Prop := fun r h' => (¬ c ∧ r = some (.int w) ∧ h' = h) ∨ (c ∧ r = some (.int v) ∧ R' h' ∧ Fr W h h')
theorem WPC_l {Y : OW} : ∀ a k, WPC Y a k → WCl a k := by intro a k; unfold WPC WRc WPc WHc Wal WCl; omega
theorem WRuC_l {Y : OW} : ∀ a k, WRuC Y a k → WCl a k := by intro a k; unfold WRuC Wal WCl; omega
theorem WFC_l {Y : OW} : ∀ a k, WFC Y a k → WCl a k := by intro a k; unfold WFC WFc Wal WCl; omega
theorem WSF_l {Y : OW} : ∀ a k, WSF Y a k → WCl a k := by intro a k; unfold WSF WBo WCl; omega
theorem WGC_l : ∀ a k, WGC a k → WCl a k := by intro a k; unfold WGC WCl; omega
theorem WKC_l : ∀ a k, WKC a k → WCl a k := by intro a k; unfold WKC WCl; omega
theorem WSc_l : ∀ a k, WSc a k → WCl a k := by intro a k; unfold WSc WCl; omega
theorem Wft_l {Y : OW} : ∀ a k, Wft Y a k → WCl a k := by intro a k; unfold Wft WCl; omega
theorem WPM_m : ∀ a k, WPM a k → WMo a k := by intro a k; unfold WPM WMo; omega
theorem WgM_m : ∀ a k, WgM a k → WMo a k := by intro a k; unfold WgM WPM Wgw WMo; omega
theorem WRuM_m : ∀ a k, WRuM a k → WMo a k := by intro a k; unfold WRuM WMo; omega
theorem WFM_m : ∀ a k, WFM a k → WMo a k := by intro a k; unfold WFM WMo; omega
theorem WSA_m : ∀ a k, WSA a k → WMo a k := by intro a k; unfold WSA WMo; omega
theorem WGM_m : ∀ a k, WGM a k → WMo a k := by intro a k; unfold WGM WMo; omega
theorem WKM_m : ∀ a k, WKM a k → WMo a k := by intro a k; unfold WKM WMo; omega
theorem Wf8_m : ∀ a k, Wf8 a k → WMo a k := by intro a k; unfold Wf8 WMo; omega
theorem W62_m : ∀ a k, (fun (a _ : Nat) => a = 62 ∨ a = 63) a k → WMo a k := by intro a k; unfold WMo; omega
theorem prP {S : mj_S} {t : Nat} {h : mj_H} {K : SK} {P : SP} {G : SG} {R : SR} {F : SF} {Y : OW} (hs : HT h) (hC : CI K P G R F Y h) (hM : MI K P G R F h) (hO : OI K P G R F) (hr : LR t h) {mc mm : mj_Y} {a1 a2 : List Value} {c : Prop} {w v : Int32} {P' : SP} {cc ss : Nat} (hcs : c → cc ≤ 62 ∧ ss ≤ 3700) (hO2 : c → OI K P' G R F) (h1 : Cl S mc a1 h (AA c w v (NC P' Y cc ss h) (WPC Y) h)) (h2 : ∀ h1, HT h1 → MI K P G R F h1 → Cl S mm a2 h1 (AA c w v (PM P') WPM h1)) : PRi S mc a1 mm a2 t h := by
  refine Cl_mono h1 ?_
  rintro r h1 (⟨hn, rfl, rfl⟩ | ⟨hc, rfl, ⟨⟨Y', hy, hN⟩, hg⟩, fr⟩)
  · refine ⟨w, rfl, hs, Cl_mono (h2 _ hs hM) ?_⟩
    rintro r h3 (⟨_, rfl, rfl⟩ | ⟨hc, _⟩)
    · exact ⟨rfl, ⟨K, P, G, R, F, Y, hs, hC, hM, hO⟩, LR_up hr⟩
    · exact absurd hc hn
  · have hs1 := fr.ht hs (WPC_st Y)
    have hM1 := MI_c hs fr WPC_l hM
    have hC1 := CI_uP hs hC fr hy hN
    refine ⟨v, rfl, hs1, Cl_mono (h2 h1 hs1 hM1) ?_⟩
    rintro r h3 (⟨hn, _⟩ | ⟨_, rfl, hP2, fr2⟩)
    · exact absurd hc hn
    · have hs2 := fr2.ht hs1 WPM_st
      have hg2 := (Gr.tr hg (Gr_m fr2 WPM_m))
      exact ⟨rfl, ⟨K, P', G, R, F, Y', hs2, CI_m hs1 fr2 WPM_m hC1, MI_uP hs1 hM1 fr2 hP2, hO2 hc⟩, LR_gr hr hg2 (hcs hc).1 (hcs hc).2⟩
theorem prR {S : mj_S} {t : Nat} {h : mj_H} {K : SK} {P : SP} {G : SG} {R : SR} {F : SF} {Y : OW} (hs : HT h) (hC : CI K P G R F Y h) (hM : MI K P G R F h) (hO : OI K P G R F) (hr : LR t h) {mc mm : mj_Y} {a1 a2 : List Value} {c : Prop} {w v : Int32} {R' : SR} {cc ss : Nat} (hcs : c → cc ≤ 62 ∧ ss ≤ 3700) (hO2 : c → OI K P G R' F) (h1 : Cl S mc a1 h (AA c w v (NCR R' Y cc ss h) (WRuC Y) h)) (h2 : ∀ h1, HT h1 → MI K P G R F h1 → Cl S mm a2 h1 (AA c w v (RM R') WRuM h1)) : PRi S mc a1 mm a2 t h := by
  refine Cl_mono h1 ?_
  rintro r h1 (⟨hn, rfl, rfl⟩ | ⟨hc, rfl, ⟨⟨Y', hy, hN⟩, hg⟩, fr⟩)
  · refine ⟨w, rfl, hs, Cl_mono (h2 _ hs hM) ?_⟩
    rintro r h3 (⟨_, rfl, rfl⟩ | ⟨hc, _⟩)
    · exact ⟨rfl, ⟨K, P, G, R, F, Y, hs, hC, hM, hO⟩, LR_up hr⟩
    · exact absurd hc hn
  · have hs1 := fr.ht hs (WRuC_st Y)
    have hM1 := MI_c hs fr WRuC_l hM
    have hC1 := CI_uR hs hC fr hy hN
    refine ⟨v, rfl, hs1, Cl_mono (h2 h1 hs1 hM1) ?_⟩
    rintro r h3 (⟨hn, _⟩ | ⟨_, rfl, hP2, fr2⟩)
    · exact absurd hc hn
    · have hs2 := fr2.ht hs1 WRuM_st
      have hg2 := (Gr.tr hg (Gr_m fr2 WRuM_m))
      exact ⟨rfl, ⟨K, P, G, R', F, Y', hs2, CI_m hs1 fr2 WRuM_m hC1, MI_uR hs1 hM1 fr2 hP2, hO2 hc⟩, LR_gr hr hg2 (hcs hc).1 (hcs hc).2⟩
theorem prR0 {S : mj_S} {t : Nat} {h : mj_H} {K : SK} {P : SP} {G : SG} {R : SR} {F : SF} {Y : OW} (hs : HT h) (hC : CI K P G R F Y h) (hM : MI K P G R F h) (hO : OI K P G R F) (hr : LR t h) {mc mm : mj_Y} {a1 a2 : List Value} {c : Prop} {w v : Int32} {R' : SR} (hO2 : c → OI K P G R' F) (h1 : Cl S mc a1 h (AA c w v (fun h' => RuC R' Y h' ∧ h'.1 = h.1) (WRuC Y) h)) (h2 : ∀ h1, HT h1 → MI K P G R F h1 → Cl S mm a2 h1 (AA c w v (RM R') WRuM h1)) : PRi S mc a1 mm a2 t h := by
  refine Cl_mono h1 ?_
  rintro r h1 (⟨hn, rfl, rfl⟩ | ⟨hc, rfl, ⟨hN, hz⟩, fr⟩)
  · refine ⟨w, rfl, hs, Cl_mono (h2 _ hs hM) ?_⟩
    rintro r h3 (⟨_, rfl, rfl⟩ | ⟨hc, _⟩)
    · exact ⟨rfl, ⟨K, P, G, R, F, Y, hs, hC, hM, hO⟩, LR_up hr⟩
    · exact absurd hc hn
  · have hs1 := fr.ht hs (WRuC_st Y)
    have hM1 := MI_c hs fr WRuC_l hM
    have hC1 := CI_uR hs hC fr OwE.rf hN
    refine ⟨v, rfl, hs1, Cl_mono (h2 h1 hs1 hM1) ?_⟩
    rintro r h3 (⟨hn, _⟩ | ⟨_, rfl, hP2, fr2⟩)
    · exact absurd hc hn
    · have hs2 := fr2.ht hs1 WRuM_st
      have hg2 := (Gr.tr (Gr_sz hz) (Gr_m fr2 WRuM_m))
      exact ⟨rfl, ⟨K, P, G, R', F, Y, hs2, CI_m hs1 fr2 WRuM_m hC1, MI_uR hs1 hM1 fr2 hP2, hO2 hc⟩, LR_gr hr hg2 (show 0 ≤ 62 ∧ 0 ≤ 3700 by decide).1 (show 0 ≤ 62 ∧ 0 ≤ 3700 by decide).2⟩
theorem prF {S : mj_S} {t : Nat} {h : mj_H} {K : SK} {P : SP} {G : SG} {R : SR} {F : SF} {Y : OW} (hs : HT h) (hC : CI K P G R F Y h) (hM : MI K P G R F h) (hO : OI K P G R F) (hr : LR t h) {mc mm : mj_Y} {a1 a2 : List Value} {c : Prop} {w v : Int32} {F' : SF} {cc ss : Nat} (hcs : c → cc ≤ 62 ∧ ss ≤ 3700) (hO2 : c → OI K P G R F') (h1 : Cl S mc a1 h (AA c w v (NCF F' Y cc ss h) (WFC Y) h)) (h2 : ∀ h1, HT h1 → MI K P G R F h1 → Cl S mm a2 h1 (AA c w v (FM F') WFM h1)) : PRi S mc a1 mm a2 t h := by
  refine Cl_mono h1 ?_
  rintro r h1 (⟨hn, rfl, rfl⟩ | ⟨hc, rfl, ⟨⟨Y', hy, hN⟩, hg⟩, fr⟩)
  · refine ⟨w, rfl, hs, Cl_mono (h2 _ hs hM) ?_⟩
    rintro r h3 (⟨_, rfl, rfl⟩ | ⟨hc, _⟩)
    · exact ⟨rfl, ⟨K, P, G, R, F, Y, hs, hC, hM, hO⟩, LR_up hr⟩
    · exact absurd hc hn
  · have hs1 := fr.ht hs (WFC_st Y)
    have hM1 := MI_c hs fr WFC_l hM
    have hC1 := CI_uF hs hC fr hy hN
    refine ⟨v, rfl, hs1, Cl_mono (h2 h1 hs1 hM1) ?_⟩
    rintro r h3 (⟨hn, _⟩ | ⟨_, rfl, hP2, fr2⟩)
    · exact absurd hc hn
    · have hs2 := fr2.ht hs1 WFM_st
      have hg2 := (Gr.tr hg (Gr_m fr2 WFM_m))
      exact ⟨rfl, ⟨K, P, G, R, F', Y', hs2, CI_m hs1 fr2 WFM_m hC1, MI_uF hs1 hM1 fr2 hP2, hO2 hc⟩, LR_gr hr hg2 (hcs hc).1 (hcs hc).2⟩
theorem prF0 {S : mj_S} {t : Nat} {h : mj_H} {K : SK} {P : SP} {G : SG} {R : SR} {F : SF} {Y : OW} (hs : HT h) (hC : CI K P G R F Y h) (hM : MI K P G R F h) (hO : OI K P G R F) (hr : LR t h) {mc mm : mj_Y} {a1 a2 : List Value} {c : Prop} {w v : Int32} {F' : SF} (hO2 : c → OI K P G R F') (h1 : Cl S mc a1 h (AA c w v (fun h' => FC F' Y h' ∧ h'.1 = h.1) (WFC Y) h)) (h2 : ∀ h1, HT h1 → MI K P G R F h1 → Cl S mm a2 h1 (AA c w v (FM F') WFM h1)) : PRi S mc a1 mm a2 t h := by
  refine Cl_mono h1 ?_
  rintro r h1 (⟨hn, rfl, rfl⟩ | ⟨hc, rfl, ⟨hN, hz⟩, fr⟩)
  · refine ⟨w, rfl, hs, Cl_mono (h2 _ hs hM) ?_⟩
    rintro r h3 (⟨_, rfl, rfl⟩ | ⟨hc, _⟩)
    · exact ⟨rfl, ⟨K, P, G, R, F, Y, hs, hC, hM, hO⟩, LR_up hr⟩
    · exact absurd hc hn
  · have hs1 := fr.ht hs (WFC_st Y)
    have hM1 := MI_c hs fr WFC_l hM
    have hC1 := CI_uF hs hC fr OwE.rf hN
    refine ⟨v, rfl, hs1, Cl_mono (h2 h1 hs1 hM1) ?_⟩
    rintro r h3 (⟨hn, _⟩ | ⟨_, rfl, hP2, fr2⟩)
    · exact absurd hc hn
    · have hs2 := fr2.ht hs1 WFM_st
      have hg2 := (Gr.tr (Gr_sz hz) (Gr_m fr2 WFM_m))
      exact ⟨rfl, ⟨K, P, G, R, F', Y, hs2, CI_m hs1 fr2 WFM_m hC1, MI_uF hs1 hM1 fr2 hP2, hO2 hc⟩, LR_gr hr hg2 (show 0 ≤ 62 ∧ 0 ≤ 3700 by decide).1 (show 0 ≤ 62 ∧ 0 ≤ 3700 by decide).2⟩
theorem prS {S : mj_S} {t : Nat} {h : mj_H} {K : SK} {P : SP} {G : SG} {R : SR} {F : SF} {Y : OW} (hs : HT h) (hC : CI K P G R F Y h) (hM : MI K P G R F h) (hO : OI K P G R F) (hr : LR t h) {mc mm : mj_Y} {a1 a2 : List Value} {c : Prop} {w v : Int32} {F' : SF} (hO2 : c → OI K P G R F') (h1 : Cl S mc a1 h (AA c w v (FC F' Y) (WSF Y) h)) (h2 : ∀ h1, HT h1 → MI K P G R F h1 → Cl S mm a2 h1 (AA c w v (FM F') WSA h1)) : PRi S mc a1 mm a2 t h := by
  refine Cl_mono h1 ?_
  rintro r h1 (⟨hn, rfl, rfl⟩ | ⟨hc, rfl, hN, fr⟩)
  · refine ⟨w, rfl, hs, Cl_mono (h2 _ hs hM) ?_⟩
    rintro r h3 (⟨_, rfl, rfl⟩ | ⟨hc, _⟩)
    · exact ⟨rfl, ⟨K, P, G, R, F, Y, hs, hC, hM, hO⟩, LR_up hr⟩
    · exact absurd hc hn
  · have hs1 := fr.ht hs (WSF_st Y)
    have hM1 := MI_c hs fr WSF_l hM
    have hC1 := CI_uS hs hC fr hN
    refine ⟨v, rfl, hs1, Cl_mono (h2 h1 hs1 hM1) ?_⟩
    rintro r h3 (⟨hn, _⟩ | ⟨_, rfl, hP2, fr2⟩)
    · exact absurd hc hn
    · have hs2 := fr2.ht hs1 WSA_st
      have hg2 := (Gr.tr (Gr.of fr (by unfold WSF WBo; omega)) (Gr_m fr2 WSA_m))
      exact ⟨rfl, ⟨K, P, G, R, F', Y, hs2, CI_m hs1 fr2 WSA_m hC1, MI_uS hs1 hM1 fr2 hP2, hO2 hc⟩, LR_gr hr hg2 (show 0 ≤ 62 ∧ 0 ≤ 3700 by decide).1 (show 0 ≤ 62 ∧ 0 ≤ 3700 by decide).2⟩
theorem prG {S : mj_S} {t : Nat} {h : mj_H} {K : SK} {P : SP} {G : SG} {R : SR} {F : SF} {Y : OW} (hs : HT h) (hC : CI K P G R F Y h) (hM : MI K P G R F h) (hO : OI K P G R F) (hr : LR t h) {mc mm : mj_Y} {a1 a2 : List Value} {c : Prop} {w v : Int32} {G' : SG} (hO2 : c → OI K P G' R F) (h1 : Cl S mc a1 h (AA c w v (GC G') WGC h)) (h2 : ∀ h1, HT h1 → MI K P G R F h1 → Cl S mm a2 h1 (AA c w v (GM G') WGM h1)) : PRi S mc a1 mm a2 t h := by
  refine Cl_mono h1 ?_
  rintro r h1 (⟨hn, rfl, rfl⟩ | ⟨hc, rfl, hN, fr⟩)
  · refine ⟨w, rfl, hs, Cl_mono (h2 _ hs hM) ?_⟩
    rintro r h3 (⟨_, rfl, rfl⟩ | ⟨hc, _⟩)
    · exact ⟨rfl, ⟨K, P, G, R, F, Y, hs, hC, hM, hO⟩, LR_up hr⟩
    · exact absurd hc hn
  · have hs1 := fr.ht hs WGC_st
    have hM1 := MI_c hs fr WGC_l hM
    have hC1 := CI_uG hs hC fr hN
    refine ⟨v, rfl, hs1, Cl_mono (h2 h1 hs1 hM1) ?_⟩
    rintro r h3 (⟨hn, _⟩ | ⟨_, rfl, hP2, fr2⟩)
    · exact absurd hc hn
    · have hs2 := fr2.ht hs1 WGM_st
      have hg2 := (Gr.tr (Gr.of fr (by unfold WGC; omega)) (Gr_m fr2 WGM_m))
      exact ⟨rfl, ⟨K, P, G', R, F, Y, hs2, CI_m hs1 fr2 WGM_m hC1, MI_uG hs1 hM1 fr2 hP2, hO2 hc⟩, LR_gr hr hg2 (show 0 ≤ 62 ∧ 0 ≤ 3700 by decide).1 (show 0 ≤ 62 ∧ 0 ≤ 3700 by decide).2⟩
theorem prU {S : mj_S} {t : Nat} {h : mj_H} {K : SK} {P : SP} {G : SG} {R : SR} {F : SF} {Y : OW} (hs : HT h) (hC : CI K P G R F Y h) (hM : MI K P G R F h) (hO : OI K P G R F) (hr : LR t h) {mc mm : mj_Y} {a1 a2 : List Value} {x : Int32} (h1 : Cl S mc a1 h (Pu (.int x) h)) (h2 : Cl S mm a2 h (Pu (.int x) h)) : PRi S mc a1 mm a2 t h := by
  refine Cl_mono h1 ?_
  rintro r h1 ⟨rfl, rfl⟩
  refine ⟨x, rfl, hs, Cl_mono h2 ?_⟩
  rintro r h3 ⟨rfl, rfl⟩
  exact ⟨rfl, ⟨K, P, G, R, F, Y, hs, hC, hM, hO⟩, LR_up hr⟩
theorem prC {S : mj_S} {t : Nat} {h : mj_H} {K : SK} {P : SP} {G : SG} {R : SR} {F : SF} {Y : OW} (hs : HT h) (hC : CI K P G R F Y h) (hM : MI K P G R F h) (hO : OI K P G R F) (hr : LR t h) {mc mm : mj_Y} {a1 a2 : List Value} {x : Int32} (h1 : Cl S mc a1 h (PuF (.int x) WSc h)) (h2 : ∀ h1, HT h1 → MI K P G R F h1 → Cl S mm a2 h1 (PuF (.int x) Wf8 h1)) : PRi S mc a1 mm a2 t h := by
  refine Cl_mono h1 ?_
  rintro r h1 ⟨rfl, fr⟩
  have hs1 := fr.ht hs WSc_st
  have hM1 := MI_c hs fr WSc_l hM
  refine ⟨x, rfl, hs1, Cl_mono (h2 h1 hs1 hM1) ?_⟩
  rintro r h3 ⟨rfl, fr2⟩
  exact ⟨rfl, ⟨K, P, G, R, F, Y, fr2.ht hs1 Wf8_st, CI_m hs1 fr2 Wf8_m (CI_uc hs hC fr), MI_u8 hs1 hM1 fr2, hO⟩, LR_gr hr (Gr.tr (Gr.of fr (by unfold WSc; omega)) (Gr_m fr2 Wf8_m)) (by decide) (by decide)⟩
