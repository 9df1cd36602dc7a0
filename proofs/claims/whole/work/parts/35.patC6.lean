/-! The class: pattern, copy, undo, setCell, put, shade, at, shares, row. -/
def hNP (h : mj_H) : mj_H := wR (wR (mNew (mNew h 16 3) 0 60) (mN h) 1 (some (mN h + 1))) (mN h) 0 (some 21)
theorem hNP_s {h : mj_H} (hs : HT h) : HT (hNP h) ∧ Fr Wal h (hNP h) ∧ Pob (hNP h) (mN h) (mN h + 1) [] ∧ Gr 2 63 h (hNP h) := by
  have hn := HT_n hs
  have e1 : mN (mNew h 16 3) = mN h + 1 := mN_new h 16 3
  have f : Fr Wal h (hNP h) := Fr.xR (Fr.xR (Fr.nw (Fr.nw Fr.rf ⟨rfl, rfl⟩ 16 3) ⟨rfl, rfl⟩ 0 60) (Nat.le_refl _)) (Nat.le_refl _)
  refine ⟨f.ht hs (by unfold Wal; decide), f, ⟨⟨?_, ?_, ?_, ?_⟩, ?_, fun i hi => absurd hi (by simp)⟩, ?_, ?_⟩
  · exact mT_new_old (mT_new_self h 16 3)
  · unfold hNP
    rw [mR_wR, if_pos rfl]
    rfl
  · unfold hNP
    rw [mR_wR, if_pos rfl]
    show va_up (mR _ (mN h)) 0 (some 21) 1 = _
    rw [mR_wR, if_pos rfl]
    rfl
  · have := mT_new_self (mNew h 16 3) 0 60
    rw [e1] at this
    exact this
  · show mI (mNew (mNew h 16 3) 0 60) (mN h) 2 = _
    rw [mI_new, if_neg (by omega), mI_new, if_pos rfl]
    rfl
  · show mN (mNew (mNew h 16 3) 0 60) = _
    rw [mN_new, e1]
  · show mZ (mNew (mNew h 16 3) 0 60) ≤ _
    rw [mZ_new, mZ_new]
    omega
def yNP (Y : OW) (h : mj_H) (p : Nat) : OW := va_up (va_up Y (mN h) (1, p)) (mN h + 1) (2, p)
theorem yNP_s {h : mj_H} (hs : HT h) {Y : OW} {p : Nat} : OwE h Y (yNP Y h p) ∧ 74 ≤ mN h ∧ 74 ≤ mN h + 1 ∧ yNP Y h p (mN h) = (1, p) ∧ yNP Y h p (mN h + 1) = (2, p) := by
  have hn := HT_n hs
  refine ⟨fun a ha => ?_, hn, by omega, ?_, ?_⟩
  · unfold yNP va_up
    rw [if_neg (by omega), if_neg (by omega)]
  · unfold yNP va_up
    rw [if_neg (by omega), if_pos rfl]
  · unfold yNP va_up
    rw [if_pos rfl]
theorem Wal_P {Y : OW} : ∀ a k, WRc Y a k ∨ WPc Y a k ∨ WHc a k → ¬ Wal a k := by
  intro a k z
  unfold WRc WPc WHc at z
  unfold Wal
  omega
theorem Wal_C {Y : OW} : ∀ x k, Wal x k → WPC Y x k := fun _ _ z => Or.inr (Or.inr (Or.inr z))
def Wkp (x k : Nat) : Prop := x = 24 ∨ (x = 0 ∧ k = 3)
theorem Wkp_C {Y : OW} : ∀ x k, Wkp x k → WPC Y x k := by
  intro x k z
  refine Or.inr (Or.inl ?_)
  unfold Wkp at z
  unfold WPc
  omega
theorem PC_kp {P : SP} {Y : OW} {h h' : mj_H} (hs : HT h) (hP : PC P Y h) {l : List Nat} (f : Fr Wkp h h') (hK : PaC (newPat P l) Y h') : PC (newPat P l) Y h' :=
  ⟨RwC_fr (P := newPat P l) hs f (by intro a k z; unfold WRc at z; unfold Wkp; omega) OwE.rf hP.1, hK, HiC_fr (P := newPat P l) hs f (by intro a k z; unfold WHc at z; unfold Wkp; omega) hP.2.2⟩
theorem Fr.trN {W V : Nat → Nat → Prop} {h h1 h2 : mj_H} (f : Fr W h h1) (g : Fr V h1 h2) (hn : 0 < mN h) (hv : ∀ a k, a < mN h → V a k → W a k) : Fr W h h2 := by
  refine ⟨⟨fun a t z => g.1.1 a t (f.1.1 a t z), ?_⟩, fun a k ha hw => ?_⟩
  · rcases f.1.2 with x | x
    · exact Or.inl x
    · rcases g.1.2 with y | y
      · exact Or.inl (hv _ _ hn y)
      · exact Or.inr (y.trans x)
  obtain ⟨a1, a2, a3⟩ := f.2 a k ha hw
  obtain ⟨b1, b2, b3⟩ := g.2 a k (Nat.lt_of_lt_of_le ha f.le) (fun z => hw (hv a k ha z))
  exact ⟨b1.trans a1, b2.trans a2, b3.trans a3⟩
theorem PC_out {P : SP} {Y : OW} {h h' : mj_H} (hs : HT h) (hP : PC P Y h) {a b q : Nat} (hY : 74 ≤ a ∧ 74 ≤ b ∧ Y a = (1, q) ∧ Y b = (2, q)) (hq : pNp P ≤ q) (f : Fr (Wab a b) h h') : PC P Y h' := by
  obtain ⟨z1, z2, z3, z4⟩ := hY
  refine ⟨RwC_fr hs f (fun x k hx hw => ?_) OwE.rf hP.1, ⟨?_, fun p hp => ?_⟩, HiC_fr hs f (fun x k hx hw => ?_) hP.2.2⟩
  · unfold WRc at hx
    rcases hw with rfl | ⟨rfl, -⟩
    · rw [z4] at hx
      omega
    · rw [z3] at hx
      omega
  · rw [f.I (by have := HT_n hs; omega) (by unfold Wab; omega)]
    exact hP.2.1.1
  · obtain ⟨u, v, g⟩ := hP.2.1.2 p hp
    have g' := g
    obtain ⟨⟨g1, g2, g3, g4⟩, g5⟩ := g'
    refine ⟨u, v, PaC1_fr hs f (by unfold Wab; omega) (fun k hw => ?_) (fun k hw => ?_) OwE.rf g⟩
    · rcases hw with rfl | ⟨rfl, -⟩
      · rw [z4] at g3
        simp at g3
      · rw [z3] at g3
        simp at g3
        omega
    · rcases hw with rfl | ⟨rfl, -⟩
      · rw [z4] at g4
        simp at g4
        omega
      · rw [z3] at g4
        simp at g4
  · unfold WHc at hx
    unfold Wab at hw
    omega
theorem to_pattern_s {S : mj_S} {h : mj_H} (hs : HT h) {P : SP} {Y : OW} (hP : PC P Y h) {n : Nat} (hQ : PO n P) : Cl S to_pattern [.ref 0] h (AnsN (pNp P < 16) (pNp P) (NC (newPat P []) Y 2 63 h) (WPC Y) h) := by
  show Ex S to_pattern 0 [some (.ref 0)] [] h _
  have hnp := hQ.2.2.1
  refine Ex_aload_n d_to_pattern_0 rfl ?_
  refine Ex_getIE d_to_pattern_1 pf_to_128 rfl (t_0 hs) hP.2.1.1 ?_
  refine Ex_bipush d_to_pattern_4 bp_16 ?_
  refine Ex_icmp_geN (pNp P) (16) 27 d_to_pattern_6 rfl rfl rfl (by omega) (by omega) (fun hc6 => ?_) (fun hc6 => ?_)
  · refine Ex_iconst d_to_pattern_27 ic_m1 ?_
    refine Ex_ireturn d_to_pattern_28 rfl ?_
    exact Or.inl ⟨by omega, rfl, rfl⟩
  · refine Ex_aload_n d_to_pattern_9 rfl ?_
    refine Ex_new (ci := 6) d_to_pattern_10 rfl pc_to_46 ?_
    have hs1 : HT (mNew h 16 3) := HT_new hs _ _
    refine Ex_dup rfl d_to_pattern_13 ?_
    refine Ex_aload_n d_to_pattern_14 rfl ?_
    refine Ex_getR d_to_pattern_15 pf_to_42 rfl (t_0 hs1) (r_0_1 hs1) ?_
    refine Ex_cI1 d_to_pattern_18 pk_to_pattern_132 (pa_init_s (h := mNew h 16 3) (a := mN h) (mT_new_self h 16 3)) ?_
    rintro rv hh ⟨rfl, rfl⟩
    rw [mN_new h 16 3]
    obtain ⟨hs2, f2, hB2, g2⟩ := hNP_s hs
    obtain ⟨oY, hY⟩ := yNP_s hs (Y := Y) (p := pNp P)
    have hP2 : PC P (yNP Y h (pNp P)) (hNP h) := PC_fr hs f2 Wal_P oY hP
    show Ex S to_pattern 21 [some (.ref 0)] [.ref ((mN h)), .ref 0] (hNP h) _
    have hPk := hP2
    have hBk := hB2
    refine Ex_cV1 d_to_pattern_21 pk_to_pattern_135 (t_0 hs2) (to_keep_s hs2 hPk.2.1 (show pNp P < 16 by omega) hBk hY) ?_
    rintro rv h9 ⟨rfl, hK9, f9⟩
    have f9 : Fr Wkp _ h9 := f9
    show Ex S to_pattern 24 [some (.ref 0)] [.int (nI (pNp P))] h9 _
    refine Ex_goto 28 d_to_pattern_24 rfl ?_
    refine Ex_ireturn d_to_pattern_28 rfl ?_
    refine Or.inr ⟨by omega, rfl, ⟨⟨_, oY, PC_kp hs2 hP2 f9 hK9⟩, g2.tr (Gr.of f9 (by unfold Wkp; omega))⟩, (f2.mono Wal_C).tr (f9.mono Wkp_C)⟩
theorem to_copy_s {S : mj_S} {h : mj_H} (hs : HT h) {P : SP} {Y : OW} (hP : PC P Y h) {n : Nat} (hQ : PO n P) {p : Int} (hp : -2147483648 ≤ p ∧ p < 2147483648) : Cl S to_copy [.ref 0, .int (J (p))] h (AnsN (okCopy P p) (pNp P) (NC (newPat P (pPat P p.toNat)) Y 2 63 h) (WPC Y) h) := by
  show Ex S to_copy 0 [some (.ref 0), some (.int (J (p))), none, none] [] h _
  by_cases hpp : 0 ≤ p ∧ p < pNp P
  · obtain ⟨a, rfl⟩ : ∃ a : Nat, p = (a : Int) := ⟨p.toNat, by omega⟩
    simp only [← nIJ]
    have hnp := hQ.2.2.1
    have hmd : pMd P ≤ 6000 := hQ.1
    obtain ⟨x, y, hx⟩ := hP.2.1.2 a (by omega)
    have hB := hx.2.2
    have hok := hQ.2.2.2.1 a (by omega)
    have hlen := hok.1
    have hx74 := hx.1.1
    have hy74 := hx.1.2.1
    refine Ex_aload_n d_to_copy_0 rfl ?_
    refine Ex_iload_n d_to_copy_1 rfl ?_
    refine Ex_pV1 d_to_copy_2 pk_to_copy_139 (t_0 hs) (to_patternOf_s hs hP hQ (show a < pNp P by omega) hx) ?_
    refine Ex_astore_n [some (.ref 0), some (.int (nI (a))), some (.ref (x)), none] d_to_copy_5 (Nat.le_of_ble_eq_true rfl) rfl ?_
    refine Ex_aload_n d_to_copy_6 rfl ?_
    refine Ex_ifnull d_to_copy_7 ?_
    refine Ex_aload_n d_to_copy_10 rfl ?_
    refine Ex_getIE d_to_copy_11 pf_to_128 rfl (t_0 hs) hP.2.1.1 ?_
    refine Ex_bipush d_to_copy_14 bp_16 ?_
    refine Ex_icmp_ltN (pNp P) (16) 21 d_to_copy_16 rfl rfl rfl (by omega) (by omega) (fun hc16 => ?_) (fun hc16 => ?_)
    · refine Ex_new (ci := 6) d_to_copy_21 rfl pc_to_46 ?_
      have hs1 : HT (mNew h 16 3) := HT_new hs _ _
      refine Ex_dup rfl d_to_copy_24 ?_
      refine Ex_aload_n d_to_copy_25 rfl ?_
      refine Ex_getR d_to_copy_26 pf_to_42 rfl (t_0 hs1) (r_0_1 hs1) ?_
      refine Ex_cI1 d_to_copy_29 pk_to_copy_132 (pa_init_s (h := mNew h 16 3) (a := mN h) (mT_new_self h 16 3)) ?_
      rintro rv hh ⟨rfl, rfl⟩
      rw [mN_new h 16 3]
      obtain ⟨hs2, f2, hB2, g2⟩ := hNP_s hs
      obtain ⟨oY, hY⟩ := yNP_s hs (Y := Y) (p := pNp P)
      have hP2 : PC P (yNP Y h (pNp P)) (hNP h) := PC_fr hs f2 Wal_P oY hP
      show Ex S to_copy 32 [some (.ref 0), some (.int (nI (a))), some (.ref (x)), none] [.ref ((mN h))] (hNP h) _
      have hBx : Pob (hNP h) x y (pPat P a) := Pob_fr f2 (fun k => by unfold Wal; omega) (fun k => by unfold Wal; omega) hB
      refine Ex_astore_n [some (.ref 0), some (.int (nI (a))), some (.ref (x)), some (.ref ((mN h)))] d_to_copy_32 (Nat.le_of_ble_eq_true rfl) rfl ?_
      refine Ex_aload_n d_to_copy_33 rfl ?_
      refine Ex_aload_n d_to_copy_34 rfl ?_
      refine Ex_getR d_to_copy_35 pf_to_219 rfl hBx.1.1 (congrArg va_rf hBx.1.2.2.1) ?_
      refine Ex_iconst d_to_copy_38 ic_0 ?_
      refine Ex_aload_n d_to_copy_39 rfl ?_
      refine Ex_getIE d_to_copy_40 pf_to_143 rfl hBx.1.1 hBx.2.1 ?_
      refine Ex_cV3 d_to_copy_43 pk_to_copy_222 hB2.1.1 (pa_takeRows_s (s := 0) hB2 hBx.1.2.2.2 (by omega) hlen (by omega) (fun k hk => by rw [Nat.zero_add]; exact hBx.2.2 k hk)) ?_
      rintro rv h3 ⟨rfl, hB3, f3⟩
      have hs3 : HT h3 := f3.ht hs2 (Wab_st hY.1 hY.2.1)
      have hP3 : PC P (yNP Y h (pNp P)) h3 := PC_out hs2 hP2 hY (Nat.le_refl _) f3
      have hPk := hP3
      have hBk := hB3
      show Ex S to_copy 46 [some (.ref 0), some (.int (nI (a))), some (.ref (x)), some (.ref ((mN h)))] [] h3 _
      refine Ex_aload_n d_to_copy_46 rfl ?_
      refine Ex_aload_n d_to_copy_47 rfl ?_
      refine Ex_cV1 d_to_copy_48 pk_to_copy_135 (t_0 hs3) (to_keep_s hs3 hPk.2.1 (show pNp P < 16 by omega) hBk hY) ?_
      rintro rv h9 ⟨rfl, hK9, f9⟩
      have f9 : Fr Wkp _ h9 := f9
      show Ex S to_copy 51 [some (.ref 0), some (.int (nI (a))), some (.ref (x)), some (.ref ((mN h)))] [.int (nI (pNp P))] h9 _
      refine Ex_ireturn d_to_copy_51 rfl ?_
      have hn74 := HT_n hs
      refine Or.inr ⟨⟨by omega, by omega, by omega⟩, rfl, ⟨⟨_, oY, ?_⟩, (g2.tr (Gr.of f3 (Wab_0 hY.2.1))).tr (Gr.of f9 (by unfold Wkp; omega))⟩, ?_⟩
      · simp only [Int.toNat_natCast]
        exact PC_kp hs3 hP3 f9 hK9
      · exact ((f2.mono Wal_C).trN f3 (by omega) (fun u k hu hw => absurd hw (by unfold Wab; omega))).tr (f9.mono Wkp_C)
    · refine Ex_iconst d_to_copy_19 ic_m1 ?_
      refine Ex_ireturn d_to_copy_20 rfl ?_
      exact Or.inl ⟨fun z => by (try unfold okCopy at z); (try unfold okRem at z); (try simp only [Int.toNat_natCast] at z); omega, rfl, rfl⟩
  · refine Ex_aload_n d_to_copy_0 rfl ?_
    refine Ex_iload_n d_to_copy_1 rfl ?_
    refine Ex_pV1 d_to_copy_2 pk_to_copy_139 (t_0 hs) (to_patternOf_n hs hP hQ hp hpp) ?_
    refine Ex_astore0_n [some (.ref 0), some (.int (J (p))), some (.null), none] d_to_copy_5 (Nat.le_of_ble_eq_true rfl) rfl ?_
    refine Ex_aload0_n d_to_copy_6 rfl ?_
    refine Ex_ifnull0 19 d_to_copy_7 rfl ?_
    refine Ex_iconst d_to_copy_19 ic_m1 ?_
    refine Ex_ireturn d_to_copy_20 rfl ?_
    exact Or.inl ⟨fun z => by (try unfold okCopy at z); (try unfold okRem at z); (try simp only [Int.toNat_natCast] at z); omega, rfl, rfl⟩
