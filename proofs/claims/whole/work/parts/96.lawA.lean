/-! THE LAW: what holds between two calls. -/
def CI (K : SK) (P : SP) (G : SG) (R : SR) (F : SF) (Y : OW) (h : mj_H) : Prop := KC K h ∧ PC P Y h ∧ GC G h ∧ RuC R Y h ∧ FC F Y h
def MI (K : SK) (P : SP) (G : SG) (R : SR) (F : SF) (h : mj_H) : Prop := KM K h ∧ PM P h ∧ GM G h ∧ RM R h ∧ FM F h
def OI (K : SK) (P : SP) (G : SG) (R : SR) (F : SF) : Prop := (KO K ∧ KN K) ∧ PO K.1 P ∧ GO K.1 G ∧ RO K.1 R ∧ FO K.1 F ∧ FZ F
def LR (t : Nat) (h : mj_H) : Prop := mN h ≤ 74 + 62 * t ∧ mZ h ≤ 418606 + 3700 * t
def LX (t : Nat) (h : mj_H) : Prop := (∃ (K : SK) (P : SP) (G : SG) (R : SR) (F : SF) (Y : OW), HT h ∧ CI K P G R F Y h ∧ MI K P G R F h ∧ OI K P G R F) ∧ LR t h
def WCl (a k : Nat) : Prop := a < 38 ∨ 74 ≤ a
def WMo (a k : Nat) : Prop := 38 ≤ a ∧ a < 74
theorem LR_up {t : Nat} {h : mj_H} (z : LR t h) : LR (t + 1) h := ⟨by have := z.1; omega, by have := z.2; omega⟩
theorem LR_gr {t c s : Nat} {h h1 : mj_H} (z : LR t h) (g : Gr c s h h1) (hc : c ≤ 62) (hs : s ≤ 3700) : LR (t + 1) h1 := ⟨by have := z.1; have := g.1; omega, by have := z.2; have := g.2; omega⟩
theorem Gr_sz {h h1 : mj_H} (e : h1.1 = h.1) : Gr 0 0 h h1 := by
  unfold Gr mN mZ
  rw [e]
  exact ⟨rfl, Nat.le_refl _⟩
theorem Gr_m {W : Nat → Nat → Prop} {h h1 : mj_H} (fr : Fr W h h1) (hw : ∀ a k, W a k → WMo a k) : Gr 0 0 h h1 := Gr.of fr (fun z => by have := hw _ _ z; unfold WMo at this; omega)
theorem MI_c {W : Nat → Nat → Prop} {K : SK} {P : SP} {G : SG} {R : SR} {F : SF} {h h1 : mj_H} (hs : HT h) (fr : Fr W h h1) (hw : ∀ a k, W a k → WCl a k) (z : MI K P G R F h) : MI K P G R F h1 :=
  ⟨KM_fr hs fr (fun a k x y => by have := hw a k y; unfold WCl at this; unfold WKM at x; omega) z.1, PM_fr hs fr (fun a k x y => by have := hw a k y; unfold WCl at this; unfold WPM at x; omega) z.2.1, GM_fr hs fr (fun a k x y => by have := hw a k y; unfold WCl at this; unfold WGg at x; omega) z.2.2.1, RM_fr hs fr (fun a k x y => by have := hw a k y; unfold WCl at this; unfold WRuM at x; omega) z.2.2.2.1, FM_fr hs fr (fun a k x y => by have := hw a k y; unfold WCl at this; unfold WFM at x; omega) z.2.2.2.2⟩
theorem CI_m {W : Nat → Nat → Prop} {K : SK} {P : SP} {G : SG} {R : SR} {F : SF} {Y : OW} {h h1 : mj_H} (hs : HT h) (fr : Fr W h h1) (hw : ∀ a k, W a k → WMo a k) (z : CI K P G R F Y h) : CI K P G R F Y h1 :=
  ⟨KC_fr hs fr (fun a k x y => by have := hw a k y; unfold WMo at this; unfold WKC at x; omega) z.1, PC_fr hs fr (fun a k x y => by have := hw a k y; unfold WMo at this; unfold WRc WPc WHc at x; omega) OwE.rf z.2.1, GC_fr hs fr (fun a k x y => by have := hw a k y; unfold WMo at this; unfold Wbk at x; omega) z.2.2.1, RuC_fr hs fr (fun a k x y => by have := hw a k y; unfold WMo at this; unfold WRuc at x; omega) OwE.rf z.2.2.2.1, FC_fr hs fr (fun a k x y => by have := hw a k y; unfold WMo at this; unfold WFc at x; omega) OwE.rf z.2.2.2.2⟩
theorem CI_uP {K : SK} {P : SP} {G : SG} {R : SR} {F : SF} {P' : SP} {Y Y' : OW} {h h1 : mj_H} (hs : HT h) (z : CI K P G R F Y h) (fr : Fr (WPC Y) h h1) (hy : OwE h Y Y') (hN : PC P' Y' h1) : CI K P' G R F Y' h1 :=
  ⟨KC_fr hs fr (fun a k x y => by unfold WPC WRc WPc WHc Wal at y; unfold WKC at x; omega) z.1, hN, GC_fr hs fr (fun a k x y => by unfold WPC WRc WPc WHc Wal at y; unfold Wbk at x; omega) z.2.2.1, RuC_fr hs fr (fun a k x y => by unfold WPC WRc WPc WHc Wal at y; unfold WRuc at x; omega) hy z.2.2.2.1, FC_fr hs fr (fun a k x y => by unfold WPC WRc WPc WHc Wal at y; unfold WFc at x; omega) hy z.2.2.2.2⟩
theorem CI_uR {K : SK} {P : SP} {G : SG} {R : SR} {F : SF} {R' : SR} {Y Y' : OW} {h h1 : mj_H} (hs : HT h) (z : CI K P G R F Y h) (fr : Fr (WRuC Y) h h1) (hy : OwE h Y Y') (hN : RuC R' Y' h1) : CI K P G R' F Y' h1 :=
  ⟨KC_fr hs fr (fun a k x y => by unfold WRuC Wal at y; unfold WKC at x; omega) z.1, PC_fr hs fr (fun a k x y => by unfold WRuC Wal at y; unfold WRc WPc WHc at x; omega) hy z.2.1, GC_fr hs fr (fun a k x y => by unfold WRuC Wal at y; unfold Wbk at x; omega) z.2.2.1, hN, FC_fr hs fr (fun a k x y => by unfold WRuC Wal at y; unfold WFc at x; omega) hy z.2.2.2.2⟩
theorem CI_uF {K : SK} {P : SP} {G : SG} {R : SR} {F : SF} {F' : SF} {Y Y' : OW} {h h1 : mj_H} (hs : HT h) (z : CI K P G R F Y h) (fr : Fr (WFC Y) h h1) (hy : OwE h Y Y') (hN : FC F' Y' h1) : CI K P G R F' Y' h1 :=
  ⟨KC_fr hs fr (fun a k x y => by unfold WFC WFc Wal at y; unfold WKC at x; omega) z.1, PC_fr hs fr (fun a k x y => by unfold WFC WFc Wal at y; unfold WRc WPc WHc at x; omega) hy z.2.1, GC_fr hs fr (fun a k x y => by unfold WFC WFc Wal at y; unfold Wbk at x; omega) z.2.2.1, RuC_fr hs fr (fun a k x y => by unfold WFC WFc Wal at y; unfold WRuc at x; omega) hy z.2.2.2.1, hN⟩
theorem CI_uS {K : SK} {P : SP} {G : SG} {R : SR} {F : SF} {F' : SF} {Y : OW} {h h1 : mj_H} (hs : HT h) (z : CI K P G R F Y h) (fr : Fr (WSF Y) h h1) (hN : FC F' Y h1) : CI K P G R F' Y h1 :=
  ⟨KC_fr hs fr (fun a k x y => by unfold WSF WBo at y; unfold WKC at x; omega) z.1, PC_fr hs fr (fun a k x y => by unfold WSF WBo at y; unfold WRc WPc WHc at x; omega) OwE.rf z.2.1, GC_fr hs fr (fun a k x y => by unfold WSF WBo at y; unfold Wbk at x; omega) z.2.2.1, RuC_fr hs fr (fun a k x y => by unfold WSF WBo at y; unfold WRuc at x; omega) OwE.rf z.2.2.2.1, hN⟩
theorem CI_uG {K : SK} {P : SP} {G : SG} {R : SR} {F : SF} {G' : SG} {Y : OW} {h h1 : mj_H} (hs : HT h) (z : CI K P G R F Y h) (fr : Fr WGC h h1) (hN : GC G' h1) : CI K P G' R F Y h1 :=
  ⟨KC_fr hs fr (fun a k x y => by unfold WGC at y; unfold WKC at x; omega) z.1, PC_fr hs fr (fun a k x y => by unfold WGC at y; unfold WRc WPc WHc at x; omega) OwE.rf z.2.1, hN, RuC_fr hs fr (fun a k x y => by unfold WGC at y; unfold WRuc at x; omega) OwE.rf z.2.2.2.1, FC_fr hs fr (fun a k x y => by unfold WGC at y; unfold WFc at x; omega) OwE.rf z.2.2.2.2⟩
theorem CI_uK {K : SK} {P : SP} {G : SG} {R : SR} {F : SF} {K' : SK} {Y : OW} {h h1 : mj_H} (hs : HT h) (z : CI K P G R F Y h) (fr : Fr WKC h h1) (hN : KC K' h1) : CI K' P G R F Y h1 :=
  ⟨hN, PC_fr hs fr (fun a k x y => by unfold WKC at y; unfold WRc WPc WHc at x; omega) OwE.rf z.2.1, GC_fr hs fr (fun a k x y => by unfold WKC at y; unfold Wbk at x; omega) z.2.2.1, RuC_fr hs fr (fun a k x y => by unfold WKC at y; unfold WRuc at x; omega) OwE.rf z.2.2.2.1, FC_fr hs fr (fun a k x y => by unfold WKC at y; unfold WFc at x; omega) OwE.rf z.2.2.2.2⟩
theorem CI_uc {K : SK} {P : SP} {G : SG} {R : SR} {F : SF} {Y : OW} {h h1 : mj_H} (hs : HT h) (z : CI K P G R F Y h) (fr : Fr WSc h h1) : CI K P G R F Y h1 :=
  ⟨KC_fr hs fr (fun a k x y => by unfold WSc at y; unfold WKC at x; omega) z.1, PC_fr hs fr (fun a k x y => by unfold WSc at y; unfold WRc WPc WHc at x; omega) OwE.rf z.2.1, GC_fr hs fr (fun a k x y => by unfold WSc at y; unfold Wbk at x; omega) z.2.2.1, RuC_fr hs fr (fun a k x y => by unfold WSc at y; unfold WRuc at x; omega) OwE.rf z.2.2.2.1, FC_fr hs fr (fun a k x y => by unfold WSc at y; unfold WFc at x; omega) OwE.rf z.2.2.2.2⟩
theorem CI_ut {K : SK} {P : SP} {G : SG} {R : SR} {F : SF} {Y : OW} {h h1 : mj_H} (hs : HT h) (z : CI K P G R F Y h) (fr : Fr (Wft Y) h h1) : CI K P G R F Y h1 :=
  ⟨KC_fr hs fr (fun a k x y => by unfold Wft at y; unfold WKC at x; omega) z.1, PC_fr hs fr (fun a k x y => by unfold Wft at y; unfold WRc WPc WHc at x; omega) OwE.rf z.2.1, GC_fr hs fr (fun a k x y => by unfold Wft at y; unfold Wbk at x; omega) z.2.2.1, RuC_fr hs fr (fun a k x y => by unfold Wft at y; unfold WRuc at x; omega) OwE.rf z.2.2.2.1, FC_fr hs fr (fun a k x y => by unfold Wft at y; unfold WFc at x; omega) OwE.rf z.2.2.2.2⟩
theorem MI_uP {K : SK} {P : SP} {G : SG} {R : SR} {F : SF} {P' : SP} {h h1 : mj_H} (hs : HT h) (z : MI K P G R F h) (fr : Fr WPM h h1) (hN : PM P' h1) : MI K P' G R F h1 :=
  ⟨KM_fr hs fr (fun a k x y => by unfold WPM at y; unfold WKM at x; omega) z.1, hN, GM_fr hs fr (fun a k x y => by unfold WPM at y; unfold WGg at x; omega) z.2.2.1, RM_fr hs fr (fun a k x y => by unfold WPM at y; unfold WRuM at x; omega) z.2.2.2.1, FM_fr hs fr (fun a k x y => by unfold WPM at y; unfold WFM at x; omega) z.2.2.2.2⟩
theorem MI_ug {K : SK} {P : SP} {G : SG} {R : SR} {F : SF} {P' : SP} {h h1 : mj_H} (hs : HT h) (z : MI K P G R F h) (fr : Fr WgM h h1) (hN : PM P' h1) : MI K P' G R F h1 :=
  ⟨KM_fr hs fr (fun a k x y => by unfold WgM WPM Wgw at y; unfold WKM at x; omega) z.1, hN, GM_fr hs fr (fun a k x y => by unfold WgM WPM Wgw at y; unfold WGg at x; omega) z.2.2.1, RM_fr hs fr (fun a k x y => by unfold WgM WPM Wgw at y; unfold WRuM at x; omega) z.2.2.2.1, FM_fr hs fr (fun a k x y => by unfold WgM WPM Wgw at y; unfold WFM at x; omega) z.2.2.2.2⟩
theorem MI_ugn {K : SK} {P : SP} {G : SG} {R : SR} {F : SF} {h h1 : mj_H} (hs : HT h) (z : MI K P G R F h) (fr : Fr Wgw h h1) : MI K P G R F h1 :=
  ⟨KM_fr hs fr (fun a k x y => by unfold Wgw at y; unfold WKM at x; omega) z.1, PM_fr hs fr (fun a k x y => by unfold Wgw at y; unfold WPM at x; omega) z.2.1, GM_fr hs fr (fun a k x y => by unfold Wgw at y; unfold WGg at x; omega) z.2.2.1, RM_fr hs fr (fun a k x y => by unfold Wgw at y; unfold WRuM at x; omega) z.2.2.2.1, FM_fr hs fr (fun a k x y => by unfold Wgw at y; unfold WFM at x; omega) z.2.2.2.2⟩
theorem MI_uR {K : SK} {P : SP} {G : SG} {R : SR} {F : SF} {R' : SR} {h h1 : mj_H} (hs : HT h) (z : MI K P G R F h) (fr : Fr WRuM h h1) (hN : RM R' h1) : MI K P G R' F h1 :=
  ⟨KM_fr hs fr (fun a k x y => by unfold WRuM at y; unfold WKM at x; omega) z.1, PM_fr hs fr (fun a k x y => by unfold WRuM at y; unfold WPM at x; omega) z.2.1, GM_fr hs fr (fun a k x y => by unfold WRuM at y; unfold WGg at x; omega) z.2.2.1, hN, FM_fr hs fr (fun a k x y => by unfold WRuM at y; unfold WFM at x; omega) z.2.2.2.2⟩
theorem MI_uF {K : SK} {P : SP} {G : SG} {R : SR} {F : SF} {F' : SF} {h h1 : mj_H} (hs : HT h) (z : MI K P G R F h) (fr : Fr WFM h h1) (hN : FM F' h1) : MI K P G R F' h1 :=
  ⟨KM_fr hs fr (fun a k x y => by unfold WFM at y; unfold WKM at x; omega) z.1, PM_fr hs fr (fun a k x y => by unfold WFM at y; unfold WPM at x; omega) z.2.1, GM_fr hs fr (fun a k x y => by unfold WFM at y; unfold WGg at x; omega) z.2.2.1, RM_fr hs fr (fun a k x y => by unfold WFM at y; unfold WRuM at x; omega) z.2.2.2.1, hN⟩
theorem MI_uS {K : SK} {P : SP} {G : SG} {R : SR} {F : SF} {F' : SF} {h h1 : mj_H} (hs : HT h) (z : MI K P G R F h) (fr : Fr WSA h h1) (hN : FM F' h1) : MI K P G R F' h1 :=
  ⟨KM_fr hs fr (fun a k x y => by unfold WSA at y; unfold WKM at x; omega) z.1, PM_fr hs fr (fun a k x y => by unfold WSA at y; unfold WPM at x; omega) z.2.1, GM_fr hs fr (fun a k x y => by unfold WSA at y; unfold WGg at x; omega) z.2.2.1, RM_fr hs fr (fun a k x y => by unfold WSA at y; unfold WRuM at x; omega) z.2.2.2.1, hN⟩
theorem MI_uG {K : SK} {P : SP} {G : SG} {R : SR} {F : SF} {G' : SG} {h h1 : mj_H} (hs : HT h) (z : MI K P G R F h) (fr : Fr WGM h h1) (hN : GM G' h1) : MI K P G' R F h1 :=
  ⟨KM_fr hs fr (fun a k x y => by unfold WGM at y; unfold WKM at x; omega) z.1, PM_fr hs fr (fun a k x y => by unfold WGM at y; unfold WPM at x; omega) z.2.1, hN, RM_fr hs fr (fun a k x y => by unfold WGM at y; unfold WRuM at x; omega) z.2.2.2.1, FM_fr hs fr (fun a k x y => by unfold WGM at y; unfold WFM at x; omega) z.2.2.2.2⟩
theorem MI_uK {K : SK} {P : SP} {G : SG} {R : SR} {F : SF} {K' : SK} {h h1 : mj_H} (hs : HT h) (z : MI K P G R F h) (fr : Fr WKM h h1) (hN : KM K' h1) : MI K' P G R F h1 :=
  ⟨hN, PM_fr hs fr (fun a k x y => by unfold WKM at y; unfold WPM at x; omega) z.2.1, GM_fr hs fr (fun a k x y => by unfold WKM at y; unfold WGg at x; omega) z.2.2.1, RM_fr hs fr (fun a k x y => by unfold WKM at y; unfold WRuM at x; omega) z.2.2.2.1, FM_fr hs fr (fun a k x y => by unfold WKM at y; unfold WFM at x; omega) z.2.2.2.2⟩
theorem MI_u8 {K : SK} {P : SP} {G : SG} {R : SR} {F : SF} {h h1 : mj_H} (hs : HT h) (z : MI K P G R F h) (fr : Fr Wf8 h h1) : MI K P G R F h1 :=
  ⟨KM_fr hs fr (fun a k x y => by unfold Wf8 at y; unfold WKM at x; omega) z.1, PM_fr hs fr (fun a k x y => by unfold Wf8 at y; unfold WPM at x; omega) z.2.1, GM_fr hs fr (fun a k x y => by unfold Wf8 at y; unfold WGg at x; omega) z.2.2.1, RM_fr hs fr (fun a k x y => by unfold Wf8 at y; unfold WRuM at x; omega) z.2.2.2.1, FM_fr hs fr (fun a k x y => by unfold Wf8 at y; unfold WFM at x; omega) z.2.2.2.2⟩
theorem MI_ut {K : SK} {P : SP} {G : SG} {R : SR} {F : SF} {h h1 : mj_H} (hs : HT h) (z : MI K P G R F h) (fr : Fr (fun a _ => a = 62 ∨ a = 63) h h1) : MI K P G R F h1 :=
  ⟨KM_fr hs fr (fun a k x y => by unfold WKM at x; omega) z.1, PM_fr hs fr (fun a k x y => by unfold WPM at x; omega) z.2.1, GM_fr hs fr (fun a k x y => by unfold WGg at x; omega) z.2.2.1, RM_fr hs fr (fun a k x y => by unfold WRuM at x; omega) z.2.2.2.1, FM_fr hs fr (fun a k x y => by unfold WFM at x; omega) z.2.2.2.2⟩
theorem WKC_st : ∀ q ∈ statR, ¬ WKC q.1 q.2.1 := by
  have h2 : ∀ q ∈ statR, ¬ ((2 ≤ q.1 ∧ q.1 ≤ 6) ∨ (q.1 = 1 ∧ q.2.1 = 0)) := by decide
  exact h2
theorem WKM_st : ∀ q ∈ statR, ¬ WKM q.1 q.2.1 := by
  have h2 : ∀ q ∈ statR, ¬ ((39 ≤ q.1 ∧ q.1 ≤ 43) ∨ (q.1 = 38 ∧ q.2.1 = 5)) := by decide
  exact h2
theorem WGC_st : ∀ q ∈ statR, ¬ WGC q.1 q.2.1 := by
  have h2 : ∀ q ∈ statR, ¬ (q.1 = 30 ∨ q.1 = 32 ∨ ((q.1 = 29 ∨ q.1 = 31) ∧ (q.2.1 = 0 ∨ q.2.1 = 1))) := by decide
  exact h2
theorem WSA_st : ∀ q ∈ statR, ¬ WSA q.1 q.2.1 := by
  have h2 : ∀ q ∈ statR, ¬ (q.1 = 67 ∨ (69 ≤ q.1 ∧ q.1 ≤ 73) ∨ (q.1 = 38 ∧ (q.2.1 = 41 ∨ q.2.1 = 42 ∨ q.2.1 = 43 ∨ (49 ≤ q.2.1 ∧ q.2.1 ≤ 54)))) := by decide
  exact h2
theorem WgM_st : ∀ q ∈ statR, ¬ WgM q.1 q.2.1 := fun q hq z => z.elim (WPM_st q hq) (Wgw_st q hq)
theorem Wft_st (Y : OW) : ∀ q ∈ statR, ¬ Wft Y q.1 q.2.1 := fun q hq z => by
  have := st_lt q hq
  have := z.1
  omega
theorem W62_st : ∀ q ∈ statR, ¬ (fun (a _ : Nat) => a = 62 ∨ a = 63) q.1 q.2.1 := by
  have h2 : ∀ q ∈ statR, ¬ (q.1 = 62 ∨ q.1 = 63) := by decide
  exact h2
theorem WSF_st (Y : OW) : ∀ q ∈ statR, ¬ WSF Y q.1 q.2.1 := by
  intro q hq
  have h1 := st_lt q hq
  have h2 := WSr_st (C := 74) (Nat.le_refl _) q hq
  unfold WSr WBo at h2
  unfold WSF WBo
  omega
theorem okP_mono {n m : Nat} (h : n ≤ m) {c : Pl} (z : okP n c) : okP m c := by
  match c, z with
  | none, _ => trivial
  | some (k, q), z => exact ⟨Nat.lt_of_lt_of_le z.1 h, z.2⟩
theorem okTo_mono {n m : Nat} (h : n ≤ m) {c : To} (z : okTo n c) : okTo m c := by
  match c, z with
  | none, _ => trivial
  | some q, z => exact okP_mono h z
theorem OI_mono {K K' : SK} {P : SP} {G : SG} {R : SR} {F : SF} (h : K.1 ≤ K'.1) (hO : KO K') (hN : KN K') (z : OI K P G R F) : OI K' P G R F := by
  obtain ⟨z1, z2, z3, z4, z5, z6⟩ := z
  refine ⟨⟨hO, hN⟩, ⟨z2.1, fun r hr => ?_, z2.2.2⟩, ⟨z3.1, fun k hk => okA_mono (z3.2 k hk) h⟩, ⟨z4.1, fun r hr => ⟨(z4.2 r hr).1, fun k hk => okT_mono ((z4.2 r hr).2 k hk) h⟩⟩, ⟨z5.1, z5.2.1, fun f hf => ?_⟩, z6⟩
  · obtain ⟨a, b, c, d⟩ := z2.2.1 r hr
    exact ⟨a, b, c, fun k hk => okT_mono (d k hk) h⟩
  · obtain ⟨a, b, c⟩ := z5.2.2 f hf
    exact ⟨a, fun k hk => ⟨okTo_mono h (b k hk).1, okP_mono h (b k hk).2⟩, fun k hk => ⟨(c k hk).1, fun q => (c k hk).2 (Nat.le_trans h q)⟩⟩
theorem kindK_le {K : SK} {e t c : Int} {b : Bool} {its : Int64} : K.1 ≤ (kindK K e t c b its).1 := by
  unfold kindK
  split
  · exact Nat.le_succ _
  · exact Nat.le_refl _
