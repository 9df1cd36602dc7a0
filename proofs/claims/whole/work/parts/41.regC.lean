/-! The class: region, turn, paste. -/
def GC (G : SG) (h : mj_H) : Prop := BkC G 29 30 h
def WGC (a k : Nat) : Prop := a = 30 ∨ a = 32 ∨ ((a = 29 ∨ a = 31) ∧ (k = 0 ∨ k = 1))
theorem bk29 : bkOK 29 30 400 := Or.inl ⟨rfl, rfl, rfl⟩
theorem bk31 : bkOK 31 32 3600 := Or.inr (Or.inl ⟨rfl, rfl, rfl⟩)
theorem bk33 : bkOK 33 34 3600 := Or.inr (Or.inr ⟨rfl, rfl, rfl⟩)
theorem GC_fr {W : Nat → Nat → Prop} {G : SG} {h h' : mj_H} (hs : HT h) (f : Fr W h h') (hw : ∀ x k, Wbk 29 30 x k → ¬ W x k) (hG : GC G h) : GC G h' := BkC_fr hs bk29 f hw hG
theorem W29_C : ∀ x k, Wbk 29 30 x k → WGC x k := by intro x k; unfold Wbk WGC; omega
theorem W31_C : ∀ x k, Wbk 31 32 x k → WGC x k := by intro x k; unfold Wbk WGC; omega
theorem lie_thn : ∀ q, q < 8 → ∀ m, m < 8 → ∀ b : Bool, lie 1 b (thn (lie 1 b (thn q 0)) m) = lie 1 b (thn q m) ∧ lie 2 b (thn (lie 2 b (thn q 0)) m) = lie 2 b (thn q m) ∧ lie 4 b (thn (lie 4 b (thn q 0)) m) = lie 4 b (thn q m) := by decide +kernel
theorem mv_mv {K : SK} (hO : KO K) {c : Option Tl} (hc : okA K.1 c) {m : Nat} (hm : m < 8) : mvA K (mvA K c 0) m = mvA K c m := by
  match c, hc with
  | none, _ => rfl
  | some none, _ => rfl
  | some (some (k, q, s)), hc =>
    have h1 := lie_thn q hc.2.1 m hm (kM K k)
    have h2 := (hO.2 k hc.1).2.1
    show some (some (k, lie (kT K k) (kM K k) (thn (lie (kT K k) (kM K k) (thn q 0)) m), s)) = some (some (k, lie (kT K k) (kM K k) (thn q m), s))
    rcases h2 with h2 | h2 | h2 <;> rw [h2]
    · rw [h1.1]
    · rw [h1.2.1]
    · rw [h1.2.2]
theorem from0 (R C k : Nat) : fromK 0 R C k = k := by
  show k / C * C + k % C = k
  exact dm_eq k C
theorem tn_tn {K : SK} (hO : KO K) {G : SG} (hG : ∀ k, k < G.1 * G.2.1 → okA K.1 (G.2.2 k)) {m a b : Nat} (hm : m < 8) {h : mj_H} (hD : BkC (tnG K (tnG K G 0) m) a b h) : BkC (tnG K G m) a b h := by
  refine ⟨hD.1, hD.2.1, fun k hk => ?_⟩
  have hk' : k < G.1 * G.2.1 := by rw [← t_mul m]; exact hk
  have z := hD.2.2 k hk
  have e : (tnG K (tnG K G 0) m).2.2 k = (tnG K G m).2.2 k := by
    show mvA K (mvA K (G.2.2 (fromK 0 G.1 G.2.1 (fromK m G.1 G.2.1 k))) 0) m = mvA K (G.2.2 (fromK m G.1 G.2.1 k)) m
    rw [from0]
    exact mv_mv hO (hG _ (fromK_lt hk')) hm
  rw [e] at z
  exact z
theorem to_region_s {S : mj_S} {h : mj_H} (hs : HT h) {P : SP} {Y : OW} (hP : PC P Y h) {n : Nat} (hn : n ≤ 40) (hQ : PO n P) {p i j r c : Int} (hp : -2147483648 ≤ p ∧ p < 2147483648) (hi : -2147483648 ≤ i ∧ i < 2147483648) (hj : -2147483648 ≤ j ∧ j < 2147483648) (hr : -2147483648 ≤ r ∧ r < 2147483648) (hc : -2147483648 ≤ c ∧ c < 2147483648) : Cl S to_region [.ref 0, .int (J (p)), .int (J (i)), .int (J (j)), .int (J (r)), .int (J (c))] h (AnsN (okRg P p r c) (cntT (rgF P p.toNat i j c.toNat) (r.toNat * c.toNat)) (GC (rgG P p.toNat i j r.toNat c.toNat)) WGC h) := by
  show Ex S to_region 0 [some (.ref 0), some (.int (J (p))), some (.int (J (i))), some (.int (J (j))), some (.int (J (r))), some (.int (J (c))), none] [] h _
  have hnp := hQ.2.2.1
  have hmd : pMd P ≤ 6000 := hQ.1
  by_cases hpp : 0 ≤ p ∧ p < pNp P
  · obtain ⟨x, y, hx⟩ := hP.2.1.2 p.toNat (by omega)
    have hB := hx.2.2
    have hok := hQ.2.2.2.1 p.toNat (by omega)
    have hlen := hok.1
    have hx74 := hx.1.1
    have hy74 := hx.1.2.1
    refine Ex_aload_n d_to_region_0 rfl ?_
    refine Ex_iload_n d_to_region_1 rfl ?_
    refine Ex_pV1 (v := .ref (x)) d_to_region_2 pk_to_region_139 (t_0 hs) (to_patternOf_z hs hP hQ hpp hx) ?_
    refine Ex_astore [some (.ref 0), some (.int (J (p))), some (.int (J (i))), some (.int (J (j))), some (.int (J (r))), some (.int (J (c))), some (.ref (x))] d_to_region_5 (Nat.le_of_ble_eq_true rfl) rfl ?_
    refine Ex_aload d_to_region_7 rfl ?_
    refine Ex_ifnull d_to_region_9 ?_
    refine Ex_iload d_to_region_12 rfl ?_
    refine Ex_iload d_to_region_14 rfl ?_
    refine Ex_pS2 (v := .int (bI (decide (1 ≤ r ∧ r ≤ 20 ∧ 1 ≤ c ∧ c ≤ 20)))) d_to_region_16 pk_to_region_226 (bl_mayBeRegion_s hr hc) ?_
    refine Ex_if_neB (decide (1 ≤ r ∧ r ≤ 20 ∧ 1 ≤ c ∧ c ≤ 20)) 24 d_to_region_19 rfl rfl (fun hc19 => ?_) (fun hc19 => ?_)
    · rw [decide_eq_true_eq] at hc19
      obtain ⟨R, rfl⟩ : ∃ R : Nat, r = (R : Int) := ⟨r.toNat, by omega⟩
      obtain ⟨C, rfl⟩ : ∃ C : Nat, c = (C : Int) := ⟨c.toNat, by omega⟩
      simp only [← nIJ]
      have hrc : R * C ≤ 20 * 20 := mul_le (by omega) (by omega)
      refine Ex_aload_n d_to_region_24 rfl ?_
      refine Ex_getR d_to_region_25 pf_to_64 rfl (t_0 hs) (r_0_5 hs) ?_
      refine Ex_aload d_to_region_28 rfl ?_
      refine Ex_iload_n d_to_region_30 rfl ?_
      refine Ex_iload_n d_to_region_31 rfl ?_
      refine Ex_iload d_to_region_32 rfl ?_
      refine Ex_iload d_to_region_34 rfl ?_
      refine Ex_cV5 d_to_region_36 pk_to_region_229 (t_29 hs) (bl_takePattern_s hs bk29 hP.1 hQ hB hok hx74 hy74 hi hj (R := R) (C := C) (by omega) (by omega) (by omega)) ?_
      rintro rv h1 ⟨rfl, hD1, f1⟩
      have hs1 : HT h1 := f1.ht hs (Wbk_st bk29)
      show Ex S to_region 39 [some (.ref 0), some (.int (J (p))), some (.int (J (i))), some (.int (J (j))), some (.int (nI (R))), some (.int (nI (C))), some (.ref (x))] [] h1 _
      refine Ex_aload_n d_to_region_39 rfl ?_
      refine Ex_getR d_to_region_40 pf_to_64 rfl (t_0 hs1) (r_0_5 hs1) ?_
      refine Ex_pV0 (v := .int (nI (cntT (rgF P p.toNat i j C) (R * C)))) d_to_region_43 pk_to_region_233 (t_29 hs1) (bl_filledCells_s hs1 bk29 hD1 (show R * C ≤ 400 by omega) (fun k hk => okA_mono (lAt_ok hQ hok) hn) (show R ≤ 3600 by omega) (show C ≤ 3600 by omega)) ?_
      refine Ex_ireturn d_to_region_46 rfl ?_
      refine Or.inr ⟨⟨by omega, by omega, by omega, by omega, by omega, by omega⟩, by simp only [Int.toNat_natCast], ?_, f1.mono W29_C⟩
      simp only [Int.toNat_natCast]
      exact hD1
    · rw [decide_eq_false_iff_not] at hc19
      refine Ex_iconst d_to_region_22 ic_m1 ?_
      refine Ex_ireturn d_to_region_23 rfl ?_
      exact Or.inl ⟨by unfold okRg; omega, rfl, rfl⟩
  · refine Ex_aload_n d_to_region_0 rfl ?_
    refine Ex_iload_n d_to_region_1 rfl ?_
    refine Ex_pV1 (v := .null) d_to_region_2 pk_to_region_139 (t_0 hs) (to_patternOf_n hs hP hQ hp hpp) ?_
    refine Ex_astore0 [some (.ref 0), some (.int (J (p))), some (.int (J (i))), some (.int (J (j))), some (.int (J (r))), some (.int (J (c))), some (.null)] d_to_region_5 (Nat.le_of_ble_eq_true rfl) rfl ?_
    refine Ex_aload0 d_to_region_7 rfl ?_
    refine Ex_ifnull0 22 d_to_region_9 rfl ?_
    refine Ex_iconst d_to_region_22 ic_m1 ?_
    refine Ex_ireturn d_to_region_23 rfl ?_
    exact Or.inl ⟨fun z => hpp ⟨z.1, z.2.1⟩, rfl, rfl⟩
theorem to_turn_s {S : mj_S} {h : mj_H} (hs : HT h) {K : SK} (hK : KC K h) (hO : KO K) {G : SG} (hG : GC G h) (hGO : GO K.1 G) {z : Int} (hz : -2147483648 ≤ z ∧ z < 2147483648) : Cl S to_turn [.ref 0, .int (J (z))] h (Ans (okTn G z) (GC G) (GC (tnG K G z.toNat)) WGC h) := by
  show Ex S to_turn 0 [some (.ref 0), some (.int (J (z)))] [] h _
  obtain ⟨hg1, hg2, hg3⟩ := GO_le hGO
  refine Ex_aload_n d_to_turn_0 rfl ?_
  refine Ex_getR d_to_turn_1 pf_to_64 rfl (t_0 hs) (r_0_5 hs) ?_
  refine Ex_pV0 (v := .int (bI (decide (G.1 = 0)))) d_to_turn_4 pk_to_turn_236 (t_29 hs) (bl_isNothing_s hs bk29 hG (by omega)) ?_
  refine Ex_if_neB (decide (G.1 = 0)) 17 d_to_turn_7 rfl rfl (fun hc7 => ?_) (fun hc7 => ?_)
  · rw [decide_eq_true_eq] at hc7
    refine Ex_iconst d_to_turn_17 ic_0 ?_
    refine Ex_zreturn d_to_turn_18 rfl (by decide) ?_
    exact Or.inl ⟨by unfold okTn; omega, rfl, rfl⟩
  · rw [decide_eq_false_iff_not] at hc7
    refine Ex_iload_n d_to_turn_10 rfl ?_
    refine Ex_pS1 (v := .int (bI (decide (0 ≤ z ∧ z < 8)))) d_to_turn_11 pk_to_turn_114 (to_isMove_s hz) ?_
    refine Ex_if_neB (decide (0 ≤ z ∧ z < 8)) 19 d_to_turn_14 rfl rfl (fun hc14 => ?_) (fun hc14 => ?_)
    · rw [decide_eq_true_eq] at hc14
      obtain ⟨m, rfl⟩ : ∃ m : Nat, z = (m : Int) := ⟨z.toNat, by omega⟩
      simp only [← nIJ]
      have hm : m < 8 := by omega
      have ht0 := t_mul 0 G.1 G.2.1
      refine Ex_aload_n d_to_turn_19 rfl ?_
      refine Ex_getR d_to_turn_20 pf_to_68 rfl (t_0 hs) (r_0_6 hs) ?_
      refine Ex_aload_n d_to_turn_23 rfl ?_
      refine Ex_getR d_to_turn_24 pf_to_64 rfl (t_0 hs) (r_0_5 hs) ?_
      refine Ex_iconst d_to_turn_27 ic_0 ?_
      refine Ex_aload_n d_to_turn_28 rfl ?_
      refine Ex_getR d_to_turn_29 pf_to_20 rfl (t_0 hs) (r_0_0 hs) ?_
      refine Ex_cV3 d_to_turn_32 pk_to_turn_239 (t_31 hs) (bl_takeMoved_s (m := 0) hs bk31 bk29 (by decide) hK hO hG (by omega) (by omega) hGO.2 (by omega) (by omega) (by omega)) ?_
      rintro rv h1 ⟨rfl, hD1, f1⟩
      have hs1 : HT h1 := f1.ht hs (Wbk_st bk31)
      have hK1 : KC K h1 := KC_fr hs f1 (by intro x k; unfold WKC Wbk; omega) hK
      show Ex S to_turn 35 [some (.ref 0), some (.int (nI (m)))] [] h1 _
      refine Ex_aload_n d_to_turn_35 rfl ?_
      refine Ex_getR d_to_turn_36 pf_to_64 rfl (t_0 hs1) (r_0_5 hs1) ?_
      refine Ex_aload_n d_to_turn_39 rfl ?_
      refine Ex_getR d_to_turn_40 pf_to_68 rfl (t_0 hs1) (r_0_6 hs1) ?_
      refine Ex_iload_n d_to_turn_43 rfl ?_
      refine Ex_aload_n d_to_turn_44 rfl ?_
      refine Ex_getR d_to_turn_45 pf_to_20 rfl (t_0 hs1) (r_0_0 hs1) ?_
      refine Ex_cV3 d_to_turn_48 pk_to_turn_239 (t_29 hs1) (bl_takeMoved_s (D := tnG K G 0) (m := m) hs1 bk29 bk31 (by decide) hK1 hO hD1 (show tR 0 G.1 G.2.1 * tC 0 G.1 G.2.1 ≤ 3600 by omega) (show tR 0 G.1 G.2.1 * tC 0 G.1 G.2.1 ≤ 400 by omega) (fun k hk => mvA_ok hO (hGO.2 _ (fromK_lt (by rw [← ht0]; exact hk)))) (show G.1 ≤ 60 by omega) (show G.2.1 ≤ 60 by omega) hm) ?_
      rintro rv h2 ⟨rfl, hD2, f2⟩
      show Ex S to_turn 51 [some (.ref 0), some (.int (nI (m)))] [] h2 _
      refine Ex_iconst d_to_turn_51 ic_1 ?_
      refine Ex_zreturn d_to_turn_52 rfl (by decide) ?_
      refine Or.inr ⟨⟨by omega, by omega, by omega⟩, rfl, ?_, (f1.mono W31_C).tr (f2.mono W29_C)⟩
      rw [Int.toNat_natCast]
      exact tn_tn hO hGO.2 hm hD2
    · rw [decide_eq_false_iff_not] at hc14
      refine Ex_iconst d_to_turn_17 ic_0 ?_
      refine Ex_zreturn d_to_turn_18 rfl (by decide) ?_
      exact Or.inl ⟨by unfold okTn; omega, rfl, rfl⟩
theorem to_comes_s {S : mj_S} {h : mj_H} (hs : HT h) {P : SP} {Y : OW} (hP : PC P Y h) {n : Nat} (hn : n ≤ 40) (hQ : PO n P) {G : SG} (hG : GC G h) (hGO : GO n G) {p x y : Nat} (hp : p < pNp P) (hx : PaC1 P Y h p x y) {i j : Int} (hi : -2147483648 ≤ i ∧ i < 2147483648) (hj : -2147483648 ≤ j ∧ j < 2147483648) {q : Nat} (hq : q < G.1) {b : Nat} (hb : b < G.2.1) : Cl S to_comes [.ref 0, .ref (x), .int (nI (q)), .int (nI (b)), .int (J (i)), .int (J (j))] h (Pu (.int (bI (comeB G P p i j q b))) h) := by
  show Ex S to_comes 0 [some (.ref 0), some (.ref (x)), some (.int (nI (q))), some (.int (nI (b))), some (.int (J (i))), some (.int (J (j)))] [] h _
  obtain ⟨hg1, hg2, hg3⟩ := GO_le hGO
  have hxx := idx_lt hq hb
  refine Ex_aload_n d_to_comes_0 rfl ?_
  refine Ex_getR d_to_comes_1 pf_to_64 rfl (t_0 hs) (r_0_5 hs) ?_
  refine Ex_iload_n d_to_comes_4 rfl ?_
  refine Ex_iload_n d_to_comes_5 rfl ?_
  refine Ex_pV2 (v := .int (eA (G.2.2 (q * G.2.1 + b)))) d_to_comes_6 pk_to_comes_261 (t_29 hs) (by rw [← hG.2.2 _ hxx]; exact bl_cellAt_s hs bk29 hG.1 hG.2.1 (by omega) hq hb) ?_
  refine Ex_bipush d_to_comes_9 bp_m2 ?_
  refine Ex_icmp_eq 39 d_to_comes_11 rfl (fun hc11 => ?_) (fun hc11 => ?_)
  · refine Ex_iconst d_to_comes_39 ic_0 ?_
    refine Ex_zreturn d_to_comes_40 rfl (by decide) ?_
    refine Pu_ff ?_
    unfold comeB
    first
      | (have z := (eA_m2 (okA_mono (hGO.2 _ hxx) hn)).mp hc11; rw [z]; rfl)
      | (have z := (eA_m2 (okA_mono (cAt_ok hQ hp) hn)).mp hc32; rw [z]; exact Bool.and_false _)
  · refine Ex_aload_n d_to_comes_14 rfl ?_
    refine Ex_iload d_to_comes_15 rfl ?_
    refine Ex_i2lZ (i) d_to_comes_17 rfl (by omega) ?_
    refine Ex_iload_n d_to_comes_18 rfl ?_
    refine Ex_i2lZ (((q : Nat) : Int)) d_to_comes_19 (nIJ _) (by omega) ?_
    refine Ex_laddZ (i) (((q : Nat) : Int)) d_to_comes_20 rfl rfl ?_
    refine Ex_iload d_to_comes_21 rfl ?_
    refine Ex_i2lZ (j) d_to_comes_23 rfl (by omega) ?_
    refine Ex_iload_n d_to_comes_24 rfl ?_
    refine Ex_i2lZ (((b : Nat) : Int)) d_to_comes_25 (nIJ _) (by omega) ?_
    refine Ex_laddZ (j) (((b : Nat) : Int)) d_to_comes_26 rfl rfl ?_
    refine Ex_pV2 (v := .int (eA (cAt P p (i + (q : Int)) (j + (b : Int))))) d_to_comes_27 pk_to_comes_186 hx.2.2.1.1 (pa_cellAt_s hs hP.1 hQ hx.2.2 (hQ.2.2.2.1 p hp) (by omega) (by omega)) ?_
    refine Ex_bipush d_to_comes_30 bp_m2 ?_
    refine Ex_icmp_eq 39 d_to_comes_32 rfl (fun hc32 => ?_) (fun hc32 => ?_)
    · refine Ex_iconst d_to_comes_39 ic_0 ?_
      refine Ex_zreturn d_to_comes_40 rfl (by decide) ?_
      refine Pu_ff ?_
      unfold comeB
      first
        | (have z := (eA_m2 (okA_mono (hGO.2 _ hxx) hn)).mp hc11; rw [z]; rfl)
        | (have z := (eA_m2 (okA_mono (cAt_ok hQ hp) hn)).mp hc32; rw [z]; exact Bool.and_false _)
    · refine Ex_iconst d_to_comes_35 ic_1 ?_
      refine Ex_goto 40 d_to_comes_36 rfl ?_
      refine Ex_zreturn d_to_comes_40 rfl (by decide) ?_
      refine Pu_tt ?_
      unfold comeB
      rw [Bool.and_eq_true]
      refine ⟨Option.isSome_iff_ne_none.mpr (fun z => hc11 ?_), Option.isSome_iff_ne_none.mpr (fun z => hc32 ?_)⟩
      · rw [z]; rfl
      · rw [z]; rfl
theorem to_cellsThatCome_L {S : mj_S} {Q : Option Value → mj_H → Prop} {h : mj_H} (hs : HT h) {P : SP} {Y : OW} (hP : PC P Y h) {n : Nat} (hn : n ≤ 40) (hQ : PO n P) {G : SG} (hG : GC G h) (hGO : GO n G) {p x y : Nat} (hp : p < pNp P) (hx : PaC1 P Y h p x y) {i j : Int} (hi : -2147483648 ≤ i ∧ i < 2147483648) (hj : -2147483648 ≤ j ∧ j < 2147483648) {q : Nat} (hq : q < G.1)
    (kx : Ex S to_cellsThatCome 41 [some (.ref 0), some (.ref (x)), some (.int (nI (q))), some (.int (J (i))), some (.int (J (j))), some (.int (nI (cmN G P p i j q (G.2.1)))), some (.int (nI (G.2.1)))] [] h Q) : ∀ d k : Nat, k + d = G.2.1 → Ex S to_cellsThatCome 6 [some (.ref 0), some (.ref (x)), some (.int (nI (q))), some (.int (J (i))), some (.int (J (j))), some (.int (nI (cmN G P p i j q (k)))), some (.int (nI (k)))] [] h Q := by
  obtain ⟨hg1, hg2, hg3⟩ := GO_le hGO
  intro d
  induction d with
  | zero =>
    intro k hkk
    obtain rfl : G.2.1 = k := by omega
    refine Ex_iload d_to_cellsThatCome_6 rfl ?_
    refine Ex_aload_n d_to_cellsThatCome_8 rfl ?_
    refine Ex_getR d_to_cellsThatCome_9 pf_to_64 rfl (t_0 hs) (r_0_5 hs) ?_
    refine Ex_getIE d_to_cellsThatCome_12 pf_to_254 rfl (t_29 hs) hG.2.1 ?_
    refine Ex_icmp_geN (G.2.1) (G.2.1) 41 d_to_cellsThatCome_15 rfl rfl rfl (by omega) (by omega) (fun hc15 => ?_) (fun hc15 => ?_)
    · exact kx
    · exfalso; omega
  | succ d ih =>
    intro k hkk
    have hcl := cmN_le G P p i j q k
    refine Ex_iload d_to_cellsThatCome_6 rfl ?_
    refine Ex_aload_n d_to_cellsThatCome_8 rfl ?_
    refine Ex_getR d_to_cellsThatCome_9 pf_to_64 rfl (t_0 hs) (r_0_5 hs) ?_
    refine Ex_getIE d_to_cellsThatCome_12 pf_to_254 rfl (t_29 hs) hG.2.1 ?_
    refine Ex_icmp_geN (k) (G.2.1) 41 d_to_cellsThatCome_15 rfl rfl rfl (by omega) (by omega) (fun hc15 => ?_) (fun hc15 => ?_)
    · exfalso; omega
    · refine Ex_aload_n d_to_cellsThatCome_18 rfl ?_
      refine Ex_aload_n d_to_cellsThatCome_19 rfl ?_
      refine Ex_iload_n d_to_cellsThatCome_20 rfl ?_
      refine Ex_iload d_to_cellsThatCome_21 rfl ?_
      refine Ex_iload_n d_to_cellsThatCome_23 rfl ?_
      refine Ex_iload d_to_cellsThatCome_24 rfl ?_
      refine Ex_pV5 (v := .int (bI (comeB G P p i j q k))) d_to_cellsThatCome_26 pk_to_cellsThatCome_257 (t_0 hs) (to_comes_s hs hP hn hQ hG hGO hp hx hi hj hq (by omega)) ?_
      refine Ex_if_eqB (comeB G P p i j q k) 35 d_to_cellsThatCome_29 rfl rfl (fun hc29 => ?_) (fun hc29 => ?_)
      · refine Ex_iincN (k) 1 [some (.ref 0), some (.ref (x)), some (.int (nI (q))), some (.int (J (i))), some (.int (J (j))), some (.int (nI (cmN G P p i j q (k)))), some (.int (nI (k + 1)))] d_to_cellsThatCome_35 rfl rfl rfl rfl ?_
        refine Ex_goto 6 d_to_cellsThatCome_38 rfl ?_
        have z := ih (k + 1) (by omega)
        rw [show cmN G P p i j q (k + 1) = cmN G P p i j q k by
          show _ + _ = _
          rw [hc29]
          rfl] at z
        exact z
      · refine Ex_iincN (cmN G P p i j q (k)) 1 [some (.ref 0), some (.ref (x)), some (.int (nI (q))), some (.int (J (i))), some (.int (J (j))), some (.int (nI ((cmN G P p i j q (k)) + 1))), some (.int (nI (k)))] d_to_cellsThatCome_32 rfl rfl rfl rfl ?_
        refine Ex_iincN (k) 1 [some (.ref 0), some (.ref (x)), some (.int (nI (q))), some (.int (J (i))), some (.int (J (j))), some (.int (nI ((cmN G P p i j q (k)) + 1))), some (.int (nI (k + 1)))] d_to_cellsThatCome_35 rfl rfl rfl rfl ?_
        refine Ex_goto 6 d_to_cellsThatCome_38 rfl ?_
        have z := ih (k + 1) (by omega)
        rw [show cmN G P p i j q (k + 1) = cmN G P p i j q k + 1 by
          show _ + _ = _
          rw [hc29]
          rfl] at z
        exact z
theorem to_cellsThatCome_s {S : mj_S} {h : mj_H} (hs : HT h) {P : SP} {Y : OW} (hP : PC P Y h) {n : Nat} (hn : n ≤ 40) (hQ : PO n P) {G : SG} (hG : GC G h) (hGO : GO n G) {p x y : Nat} (hp : p < pNp P) (hx : PaC1 P Y h p x y) {i j : Int} (hi : -2147483648 ≤ i ∧ i < 2147483648) (hj : -2147483648 ≤ j ∧ j < 2147483648) {q : Nat} (hq : q < G.1) : Cl S to_cellsThatCome [.ref 0, .ref (x), .int (nI (q)), .int (J (i)), .int (J (j))] h (Pu (.int (nI (cmN G P p i j q G.2.1))) h) := by
  show Ex S to_cellsThatCome 0 [some (.ref 0), some (.ref (x)), some (.int (nI (q))), some (.int (J (i))), some (.int (J (j))), none, none] [] h _
  refine Ex_iconst d_to_cellsThatCome_0 ic_0 ?_
  refine Ex_istore [some (.ref 0), some (.ref (x)), some (.int (nI (q))), some (.int (J (i))), some (.int (J (j))), some (.int (0)), none] d_to_cellsThatCome_1 (Nat.le_of_ble_eq_true rfl) rfl ?_
  refine Ex_iconst d_to_cellsThatCome_3 ic_0 ?_
  refine Ex_istore [some (.ref 0), some (.ref (x)), some (.int (nI (q))), some (.int (J (i))), some (.int (J (j))), some (.int (0)), some (.int (0))] d_to_cellsThatCome_4 (Nat.le_of_ble_eq_true rfl) rfl ?_
  refine to_cellsThatCome_L hs hP hn hQ hG hGO hp hx hi hj hq ?_ G.2.1 0 (by omega)
  refine Ex_iload d_to_cellsThatCome_41 rfl ?_
  refine Ex_ireturn d_to_cellsThatCome_43 rfl ?_
  exact ⟨rfl, rfl⟩
theorem PC_own {P : SP} {Y Y' : OW} {h h' : mj_H} (hs : HT h) (hP : PC P Y h) {p x y t : Nat} (hx : PaC1 P Y h p x y) (f : Fr (fun u k => WRn u k ∨ u = y) h h') (oY : OwE h Y Y') (hR : RwC (newR P (pL P ((pPat P p).getD t 0)) (pO P ((pPat P p).getD t 0)) (pC P ((pPat P p).getD t 0))) Y' h') (hB : Pob h' x y ((pPat P p).set t (pMd P))) : PC (ownP P p t) Y' h' := by
  obtain ⟨⟨z1, z2, z3, z4⟩, -⟩ := id hx
  refine ⟨hR, PaC_upd (P := newR P _ _ _) (Y := Y) hs hP.2.1 hx f (fun u k w => ?_) oY hB, HiC_fr (P := ownP P p t) hs f (fun u k z w => ?_) hP.2.2⟩
  · rcases w with w | rfl
    · unfold WRn WRe Wal at w
      exact ⟨by omega, by omega, by omega⟩
    · exact ⟨by omega, by omega, fun _ _ => by rw [z4]⟩
  · unfold WHc at z
    unfold WRn WRe Wal at w
    omega
theorem PaC1_own {P : SP} {Y Y' : OW} {h h' : mj_H} (hs : HT h) {p x y t : Nat} (hx : PaC1 P Y h p x y) (f : Fr (fun u k => WRn u k ∨ u = y) h h') (oY : OwE h Y Y') (hB : Pob h' x y ((pPat P p).set t (pMd P))) : PaC1 (ownP P p t) Y' h' p x y := by
  obtain ⟨⟨z1, z2, z3, z4⟩, z5, z6⟩ := hx
  have hn := HT_n hs
  refine ⟨⟨z1, z2, by rw [oY x (mT_lt z6.1.1)]; exact z3, by rw [oY y (mT_lt z6.1.2.2.2)]; exact z4⟩, ?_, ?_⟩
  · rw [f.R (by omega) (by unfold WRn WRe Wal; omega)]
    exact z5
  · have : pPat (ownP P p t) p = (pPat P p).set t (pMd P) := by simp [ownP, uPat, pPat, va_up]
    rw [this]
    exact hB
theorem PaC1_pat {P P' : SP} {Y : OW} {h : mj_H} {p x y : Nat} (e : pPat P' p = pPat P p) (hx : PaC1 P Y h p x y) : PaC1 P' Y h p x y := by
  unfold PaC1 at hx ⊢
  rw [e]
  exact hx
def Wrw (Y : OW) (r a k : Nat) : Prop := 74 ≤ a ∧ Y a = (0, r)
theorem to_pasteRows_L1 {S : mj_S} {Q : Option Value → mj_H → Prop} {h : mj_H} (hs : HT h) {P : SP} {Y : OW} {n : Nat} (hn : n ≤ 40) (hQ : PO n P) {G : SG} (hG : GC G h) (hGO : GO n G) {p x y : Nat} (hp : p < pNp P) (hx : PaC1 P Y h p x y) {i j : Int} (hi : -2147483648 ≤ i ∧ i < 2147483648) (hj : -2147483648 ≤ j ∧ j < 2147483648) {q : Nat} (hq : q < G.1) {t r : Nat} (ht : t < (pPat P p).length) (hit : i + (q : Int) = (t : Int)) (hr : (pPat P p).getD t 0 = r)
    (kx : ∀ h1 : mj_H, (Fr (Wrw Y r) h h1 ∧ PC (pB G q r j (G.2.1) P) Y h1) → Ex S to_pasteRows 96 [some (.ref 0), some (.ref (x)), some (.int (J (i))), some (.int (J (j))), some (.int (nI (q))), some (.int (nI (r))), some (.int (nI (G.2.1)))] [] h1 Q) : ∀ d k : Nat, k + d = G.2.1 → ∀ h1 : mj_H, (Fr (Wrw Y r) h h1 ∧ PC (pB G q r j (k) P) Y h1) → Ex S to_pasteRows 40 [some (.ref 0), some (.ref (x)), some (.int (J (i))), some (.int (J (j))), some (.int (nI (q))), some (.int (nI (r))), some (.int (nI (k)))] [] h1 Q := by
  obtain ⟨hg1, hg2, hg3⟩ := GO_le hGO
  intro d
  induction d with
  | zero =>
    intro k hkk h1 hI
    obtain rfl : G.2.1 = k := by omega
    have f1 := hI.1
    have hs1 : HT h1 := f1.ht hs (fun q hq z => by have := st_lt q hq; have := z.1; omega)
    have hG1 : GC G h1 := GC_fr hs f1 (by intro x k; unfold Wbk Wrw; omega) hG
    have hx1 : PaC1 P Y h1 p x y := PaC1_fr hs f1 (by unfold Wrw; omega) (fun k z => by have := hx.1.2.2.1; rw [z.2] at this; cases this) (fun k z => by have := hx.1.2.2.2; rw [z.2] at this; cases this) OwE.rf hx
    refine Ex_iload d_to_pasteRows_40 rfl ?_
    refine Ex_aload_n d_to_pasteRows_42 rfl ?_
    refine Ex_getR d_to_pasteRows_43 pf_to_64 rfl (t_0 hs1) (r_0_5 hs1) ?_
    refine Ex_getIE d_to_pasteRows_46 pf_to_254 rfl (t_29 hs1) hG1.2.1 ?_
    refine Ex_icmp_geN (G.2.1) (G.2.1) 96 d_to_pasteRows_49 rfl rfl rfl (by omega) (by omega) (fun hc49 => ?_) (fun hc49 => ?_)
    · exact kx h1 hI
    · exfalso; omega
  | succ d ih =>
    intro k hkk h1 hI
    have f1 := hI.1
    have hs1 : HT h1 := f1.ht hs (fun q hq z => by have := st_lt q hq; have := z.1; omega)
    have hG1 : GC G h1 := GC_fr hs f1 (by intro x k; unfold Wbk Wrw; omega) hG
    have hx1 : PaC1 P Y h1 p x y := PaC1_fr hs f1 (by unfold Wrw; omega) (fun k z => by have := hx.1.2.2.1; rw [z.2] at this; cases this) (fun k z => by have := hx.1.2.2.2; rw [z.2] at this; cases this) OwE.rf hx
    have hxx := idx_lt hq (show k < G.2.1 by omega)
    obtain ⟨s1, s2, s3, s4, s5, s6⟩ := pB_sh G q r j k P
    have hQ1 := PO_B hGO.2 (r := r) (j := j) hq (b := k) (by omega) hQ
    have hp1 : p < pNp (pB G q r j k P) := by rw [s5]; exact hp
    have hx2 : PaC1 (pB G q r j k P) Y h1 p x y := PaC1_pat (by rw [s3]) hx1
    have hca : cAt (pB G q r j k P) p (i + (q : Int)) (j + (k : Int)) = rAt (pB G q r j k P) r (j + (k : Int)) := by
      unfold cAt
      rw [s3, if_pos (by omega), hit, Int.toNat_natCast, hr]
    refine Ex_iload d_to_pasteRows_40 rfl ?_
    refine Ex_aload_n d_to_pasteRows_42 rfl ?_
    refine Ex_getR d_to_pasteRows_43 pf_to_64 rfl (t_0 hs1) (r_0_5 hs1) ?_
    refine Ex_getIE d_to_pasteRows_46 pf_to_254 rfl (t_29 hs1) hG1.2.1 ?_
    refine Ex_icmp_geN (k) (G.2.1) 96 d_to_pasteRows_49 rfl rfl rfl (by omega) (by omega) (fun hc49 => ?_) (fun hc49 => ?_)
    · exfalso; omega
    · refine Ex_aload_n d_to_pasteRows_52 rfl ?_
      refine Ex_aload_n d_to_pasteRows_53 rfl ?_
      refine Ex_iload d_to_pasteRows_54 rfl ?_
      refine Ex_iload d_to_pasteRows_56 rfl ?_
      refine Ex_iload_n d_to_pasteRows_58 rfl ?_
      refine Ex_iload_n d_to_pasteRows_59 rfl ?_
      refine Ex_pV5 (v := .int (bI (comeB G (pB G q r j k P) p i j q k))) d_to_pasteRows_60 pk_to_pasteRows_257 (t_0 hs1) (to_comes_s hs1 hI.2 hn hQ1 hG1 hGO hp1 hx2 hi hj hq (by omega)) ?_
      refine Ex_if_eqB (comeB G (pB G q r j k P) p i j q k) 90 d_to_pasteRows_63 rfl rfl (fun hc63 => ?_) (fun hc63 => ?_)
      · refine Ex_iincN (k) 1 [some (.ref 0), some (.ref (x)), some (.int (J (i))), some (.int (J (j))), some (.int (nI (q))), some (.int (nI (r))), some (.int (nI (k + 1)))] d_to_pasteRows_90 rfl rfl rfl rfl ?_
        refine Ex_goto 40 d_to_pasteRows_93 rfl ?_
        refine ih (k + 1) (by omega) h1 ⟨f1, ?_⟩
        rw [show pB G q r j (k + 1) P = pB G q r j k P from if_neg (by rintro ⟨z1, z2⟩; unfold comeB at hc63; rw [z1, hca, z2] at hc63; cases hc63)]
        exact hI.2
      · have hcc := hc63
        unfold comeB at hcc
        rw [Bool.and_eq_true, hca] at hcc
        obtain ⟨c1, hc1⟩ := Option.isSome_iff_exists.mp hcc.1
        have hc1e : eA (G.2.2 (q * G.2.1 + k)) = eC c1 := by rw [hc1]; rfl
        obtain ⟨c0, hc0⟩ := Option.isSome_iff_exists.mp hcc.2
        have hin : pO P r ≤ j + (k : Int) ∧ j + (k : Int) < pO P r + pL P r := by
          by_cases z : pO P r ≤ j + (k : Int) ∧ j + (k : Int) < pO P r + pL P r
          · exact z
          · unfold rAt at hc0
            rw [s1, s2, if_neg z] at hc0
            cases hc0
        have hrm := PO_row hQ hp ht
        rw [hr] at hrm
        have hrm2 : r < pMd (pB G q r j k P) := by rw [s4]; exact hrm
        obtain ⟨xr, hr1⟩ := hI.2.1.2 r hrm2
        refine Ex_aload_n d_to_pasteRows_66 rfl ?_
        refine Ex_getR d_to_pasteRows_67 pf_to_42 rfl (t_0 hs1) (r_0_1 hs1) ?_
        refine Ex_iload d_to_pasteRows_70 rfl ?_
        refine Ex_iload_n d_to_pasteRows_72 rfl ?_
        refine Ex_iload d_to_pasteRows_73 rfl ?_
        refine Ex_iaddZ (j) (((k : Nat) : Int)) d_to_pasteRows_75 rfl (nIJ _) ?_
        refine Ex_aload_n d_to_pasteRows_76 rfl ?_
        refine Ex_getR d_to_pasteRows_77 pf_to_64 rfl (t_0 hs1) (r_0_5 hs1) ?_
        refine Ex_iload d_to_pasteRows_80 rfl ?_
        refine Ex_iload d_to_pasteRows_82 rfl ?_
        refine Ex_pV2 (v := .int (eC c1)) d_to_pasteRows_84 pk_to_pasteRows_261 (t_29 hs1) (by rw [← hc1e, ← hG1.2.2 _ hxx]; exact bl_cellAt_s hs1 bk29 hG1.1 hG1.2.1 (by omega) hq (by omega)) ?_
        refine Ex_cV3 d_to_pasteRows_87 pk_to_pasteRows_197 (t_21 hs1) (rs_setCell_s (c := c1) hs1 hI.2.1 hQ1 (q := r) hrm2 hr1 (by rw [s1, s2]; exact hin)) ?_
        rintro rv h2 ⟨rfl, hR2, f2⟩
        show Ex S to_pasteRows 90 [some (.ref 0), some (.ref (x)), some (.int (J (i))), some (.int (J (j))), some (.int (nI (q))), some (.int (nI (r))), some (.int (nI (k)))] [] h2 _
        refine Ex_iincN (k) 1 [some (.ref 0), some (.ref (x)), some (.int (J (i))), some (.int (J (j))), some (.int (nI (q))), some (.int (nI (r))), some (.int (nI (k + 1)))] d_to_pasteRows_90 rfl rfl rfl rfl ?_
        refine Ex_goto 40 d_to_pasteRows_93 rfl ?_
        refine ih (k + 1) (by omega) h2 ⟨f1.tr (f2.mono (fun a k z => by rw [z.1]; exact hr1.1)), ?_⟩
        rw [show pB G q r j (k + 1) P = uCell (pB G q r j k P) r (j + (k : Int) - pO P r).toNat ((G.2.2 (q * G.2.1 + k)).getD none) from if_pos ⟨hcc.1, hcc.2⟩, hc1, ← s2]
        exact PC_cell hs1 hI.2 hr1.1 f2 hR2
theorem to_pasteRows_L2 {S : mj_S} {Q : Option Value → mj_H → Prop} {h : mj_H} (hs : HT h) {P : SP} {Y : OW} {n : Nat} (hn : n ≤ 40) (hQ : PO n P) {G : SG} (hG : GC G h) (hGO : GO n G) {p x y : Nat} (hp : p < pNp P) (hx : PaC1 P Y h p x y) {i j : Int} (hi : -2147483648 ≤ i ∧ i < 2147483648) (hj : -2147483648 ≤ j ∧ j < 2147483648) (hm : pMd P + rwN G P p i j G.1 ≤ 6000)
    (kx : ∀ h1 : mj_H, (∃ Y1, OwE h Y Y1 ∧ PC (pA G p i j (G.1) P) Y1 h1 ∧ PaC1 (pA G p i j (G.1) P) Y1 h1 p x y ∧ Fr (WPC Y) h h1 ∧ Gr (rwN G P p i j (G.1)) (60 * rwN G P p i j (G.1)) h h1) → Ex S to_pasteRows 102 [some (.ref 0), some (.ref (x)), some (.int (J (i))), some (.int (J (j))), some (.int (nI (G.1))), none, none] [] h1 Q) : ∀ d k : Nat, k + d = G.1 → ∀ h1 : mj_H, (∃ Y1, OwE h Y Y1 ∧ PC (pA G p i j (k) P) Y1 h1 ∧ PaC1 (pA G p i j (k) P) Y1 h1 p x y ∧ Fr (WPC Y) h h1 ∧ Gr (rwN G P p i j (k)) (60 * rwN G P p i j (k)) h h1) → Ex S to_pasteRows 3 [some (.ref 0), some (.ref (x)), some (.int (J (i))), some (.int (J (j))), some (.int (nI (k))), none, none] [] h1 Q := by
  obtain ⟨hg1, hg2, hg3⟩ := GO_le hGO
  intro d
  induction d with
  | zero =>
    intro k hkk h1 hI
    obtain rfl : G.1 = k := by omega
    have hI0 := hI
    obtain ⟨Y1, oY1, hP1, hx1, f1, g1⟩ := hI
    have hs1 : HT h1 := f1.ht hs (WPC_st Y)
    have hG1 : GC G h1 := GC_fr hs f1 (by intro x k; unfold Wbk WPC WRc WPc WHc Wal; omega) hG
    refine Ex_iload d_to_pasteRows_3 rfl ?_
    refine Ex_aload_n d_to_pasteRows_5 rfl ?_
    refine Ex_getR d_to_pasteRows_6 pf_to_64 rfl (t_0 hs1) (r_0_5 hs1) ?_
    refine Ex_getIE d_to_pasteRows_9 pf_to_243 rfl (t_29 hs1) hG1.1 ?_
    refine Ex_icmp_geN (G.1) (G.1) 102 d_to_pasteRows_12 rfl rfl rfl (by omega) (by omega) (fun hc12 => ?_) (fun hc12 => ?_)
    · exact kx h1 hI0
    · exfalso; omega
  | succ d ih =>
    intro k hkk h1 hI
    obtain ⟨Y1, oY1, hP1, hx1, f1, g1⟩ := hI
    have hs1 : HT h1 := f1.ht hs (WPC_st Y)
    have hG1 : GC G h1 := GC_fr hs f1 (by intro x k; unfold Wbk WPC WRc WPc WHc Wal; omega) hG
    have hcm := cmN_le G P p i j k G.2.1
    obtain ⟨q1, q2, q3, q4, q5⟩ := pA_ok hGO.2 hQ hp (i := i) (j := j) k (by omega) (by have := rwN_mono G P p i j k (G.1 - k); rw [show k + (G.1 - k) = G.1 by omega] at this; omega)
    refine Ex_iload d_to_pasteRows_3 rfl ?_
    refine Ex_aload_n d_to_pasteRows_5 rfl ?_
    refine Ex_getR d_to_pasteRows_6 pf_to_64 rfl (t_0 hs1) (r_0_5 hs1) ?_
    refine Ex_getIE d_to_pasteRows_9 pf_to_243 rfl (t_29 hs1) hG1.1 ?_
    refine Ex_icmp_geN (k) (G.1) 102 d_to_pasteRows_12 rfl rfl rfl (by omega) (by omega) (fun hc12 => ?_) (fun hc12 => ?_)
    · exfalso; omega
    · refine Ex_aload_n d_to_pasteRows_15 rfl ?_
      refine Ex_aload_n d_to_pasteRows_16 rfl ?_
      refine Ex_iload d_to_pasteRows_17 rfl ?_
      refine Ex_iload_n d_to_pasteRows_19 rfl ?_
      refine Ex_iload_n d_to_pasteRows_20 rfl ?_
      refine Ex_pV4 (v := .int (nI (cmN G P p i j k G.2.1))) d_to_pasteRows_21 pk_to_pasteRows_246 (t_0 hs1) (by rw [← q2.cm]; exact to_cellsThatCome_s hs1 hP1 hn q1 hG1 hGO (by omega) hx1 hi hj (by omega)) ?_
      refine Ex_if_leN (cmN G P p i j k G.2.1) 96 d_to_pasteRows_24 rfl rfl (by omega) (fun hc24 => ?_) (fun hc24 => ?_)
      · refine Ex_iincN (k) 1 [some (.ref 0), some (.ref (x)), some (.int (J (i))), some (.int (J (j))), some (.int (nI (k + 1))), none, none] d_to_pasteRows_96 rfl rfl rfl rfl ?_
        refine Ex_goto 3 d_to_pasteRows_99 rfl ?_
        refine ih (k + 1) (by omega) h1 ⟨Y1, oY1, ?_, ?_, f1, ?_⟩
        · rw [show pA G p i j (k + 1) P = pA G p i j k P from if_neg (by omega)]; exact hP1
        · rw [show pA G p i j (k + 1) P = pA G p i j k P from if_neg (by omega)]; exact hx1
        · rw [show rwN G P p i j (k + 1) = rwN G P p i j k from by show _ + _ = _; rw [if_neg (by omega), Nat.add_zero]]; exact g1
      · have hin := cm_in hc24
        have hmk : pMd P + rwN G P p i j (k + 1) ≤ 6000 := by have := rwN_mono G P p i j (k + 1) (G.1 - (k + 1)); rw [show k + 1 + (G.1 - (k + 1)) = G.1 by omega] at this; omega
        have hmk1 : rwN G P p i j (k + 1) = rwN G P p i j k + 1 := by show _ + _ = _; rw [if_pos hc24]
        have hlk := q2.1
        have hit : (i + (k : Int)).toNat < (pPat (pA G p i j k P) p).length := by omega
        refine Ex_aload_n d_to_pasteRows_27 rfl ?_
        refine Ex_iload_n d_to_pasteRows_28 rfl ?_
        refine Ex_iload d_to_pasteRows_29 rfl ?_
        refine Ex_iaddZ (i) (((k : Nat) : Int)) d_to_pasteRows_31 rfl (nIJ _) ?_
        rw [show ((J (i + (((k : Nat) : Int)))) : Int32) = (nI ((i + (k : Int)).toNat)) from (J_pos (by omega))]
        refine Ex_cV1 d_to_pasteRows_32 pk_to_pasteRows_193 hx1.2.2.1.1 (pa_renewRow_s (P := pA G p i j k P) (l := pPat (pA G p i j k P) p) hs1 hP1.1 q1 hx1.2.2 (q1.2.2.2.1 p (by omega)) (by omega) hit hx1.1.1 ⟨hx1.1.2.1, by rw [hx1.1.2.2.2]⟩) ?_
        rintro rv h2 ⟨rfl, ⟨Y2, oY2, hR2⟩, hB2, f2, g2⟩
        have hs2 : HT h2 := f2.ht hs1 (fun q hq z => z.elim (WRn_st q hq) (fun z => by have := st_lt q hq; have := hx1.1.2.1; omega))
        have hP2 := PC_own hs1 hP1 hx1 f2 oY2 hR2 hB2
        have hx2 := PaC1_own hs1 hx1 f2 oY2 hB2
        have hQ2 := PO_own q1 (show p < pNp (pA G p i j k P) by omega) hit (by omega)
        have hG2 : GC G h2 := GC_fr hs1 f2 (by intro u k; have := hx1.1.2.1; unfold Wbk WRn WRe Wal; omega) hG1
        show Ex S to_pasteRows 35 [some (.ref 0), some (.ref (x)), some (.int (J (i))), some (.int (J (j))), some (.int (nI (k))), none, none] [.int (nI (pMd (pA G p i j k P)))] h2 _
        refine Ex_istore [some (.ref 0), some (.ref (x)), some (.int (J (i))), some (.int (J (j))), some (.int (nI (k))), some (.int (nI (pMd (pA G p i j k P)))), none] d_to_pasteRows_35 (Nat.le_of_ble_eq_true rfl) rfl ?_
        refine Ex_iconst d_to_pasteRows_37 ic_0 ?_
        refine Ex_istore [some (.ref 0), some (.ref (x)), some (.int (J (i))), some (.int (J (j))), some (.int (nI (k))), some (.int (nI (pMd (pA G p i j k P)))), some (.int (0))] d_to_pasteRows_38 (Nat.le_of_ble_eq_true rfl) rfl ?_
        refine to_pasteRows_L1 hs2 hn hQ2 hG2 hGO (t := (i + (k : Int)).toNat) (show p < pNp (pA G p i j k P) by omega) hx2 hi hj (show k < G.1 by omega) (by rw [own_len]; exact hit) (by omega) (own_row hit) (fun h3 hI3 => ?_) G.2.1 0 (by omega) h2 ⟨Fr.rf, hP2⟩
        refine Ex_iincN (k) 1 [some (.ref 0), some (.ref (x)), some (.int (J (i))), some (.int (J (j))), some (.int (nI (k + 1))), some (.int (nI (pMd (pA G p i j k P)))), some (.int (nI (G.2.1)))] d_to_pasteRows_96 rfl rfl rfl rfl ?_
        refine Ex_goto 3 d_to_pasteRows_99 rfl ?_
        refine Ex_forget (ls' := [some (.ref 0), some (.ref (x)), some (.int (J (i))), some (.int (J (j))), some (.int (nI (k + 1))), none, none]) (sub_s (sub_s (sub_s (sub_s (sub_s (sub_n (sub_n sub_0))))))) ?_
        refine ih (k + 1) (by omega) h3 ⟨Y2, oY1.tr oY2 f1.le, ?_, ?_, ?_, ?_⟩
        · rw [show pA G p i j (k + 1) P = _ from if_pos hc24]
          exact hI3.2
        · rw [show pA G p i j (k + 1) P = _ from if_pos hc24]
          refine PaC1_pat (by rw [(pB_sh ..).2.2.1]) (PaC1_fr hs2 hI3.1 (by unfold Wrw; omega) (fun k z => by have := hx2.1.2.2.1; rw [z.2] at this; cases this) (fun k z => by have := hx2.1.2.2.2; rw [z.2] at this; cases this) OwE.rf hx2)
        · refine (f1.tr (f2.mono (fun u k w => w.elim (WRn_C u k) (fun w => Wab_C hx u k (Or.inl w))))).trN hI3.1 (by have := HT_n hs; omega) (fun u k hu w => ?_)
          refine Or.inl (Or.inr (Or.inr (Or.inr ⟨w.1, ?_⟩)))
          rw [← (oY1.tr oY2 f1.le) u hu, w.2]
        · rw [hmk1]
          have z := (g1.tr g2).tr (Gr.of hI3.1 (by unfold Wrw; omega))
          rw [show 60 * (rwN G P p i j k + 1) = 60 * rwN G P p i j k + 60 + 0 by omega]
          exact z
theorem to_pasteRows_s {S : mj_S} {h : mj_H} (hs : HT h) {P : SP} {Y : OW} {n : Nat} (hn : n ≤ 40) (hQ : PO n P) {G : SG} (hG : GC G h) (hGO : GO n G) {p x y : Nat} (hp : p < pNp P) (hx : PaC1 P Y h p x y) {i j : Int} (hi : -2147483648 ≤ i ∧ i < 2147483648) (hj : -2147483648 ≤ j ∧ j < 2147483648) (hm : pMd P + rwN G P p i j G.1 ≤ 6000) (hP : PC P Y h) : Cl S to_pasteRows [.ref 0, .ref (x), .int (J (i)), .int (J (j))] h (fun r h' => r = none ∧ (∃ Y1, OwE h Y Y1 ∧ PC (pA G p i j (G.1) P) Y1 h' ∧ PaC1 (pA G p i j (G.1) P) Y1 h' p x y ∧ Fr (WPC Y) h h' ∧ Gr (rwN G P p i j (G.1)) (60 * rwN G P p i j (G.1)) h h')) := by
  show Ex S to_pasteRows 0 [some (.ref 0), some (.ref (x)), some (.int (J (i))), some (.int (J (j))), none, none, none] [] h _
  refine Ex_iconst d_to_pasteRows_0 ic_0 ?_
  refine Ex_istore [some (.ref 0), some (.ref (x)), some (.int (J (i))), some (.int (J (j))), some (.int (0)), none, none] d_to_pasteRows_1 (Nat.le_of_ble_eq_true rfl) rfl ?_
  refine to_pasteRows_L2 hs hn hQ hG hGO hp hx hi hj hm (fun h1 hI => ?_) G.1 0 (by omega) h ⟨Y, OwE.rf, hP, hx, Fr.rf, rfl, Nat.le_refl _⟩
  refine Ex_return d_to_pasteRows_102 rfl ?_
  exact ⟨rfl, hI⟩
theorem to_paste_L {S : mj_S} {Q : Option Value → mj_H → Prop} {h : mj_H} (hs : HT h) {P : SP} {Y : OW} (hP : PC P Y h) {n : Nat} (hn : n ≤ 40) (hQ : PO n P) {G : SG} (hG : GC G h) (hGO : GO n G) {p : Int} {x y : Nat} (hpp : 0 ≤ p ∧ p < pNp P) (hx : PaC1 P Y h p.toNat x y) {i j : Int} (hi : -2147483648 ≤ i ∧ i < 2147483648) (hj : -2147483648 ≤ j ∧ j < 2147483648)
    (kx : Ex S to_paste 85 [some (.ref 0), some (.int (J (p))), some (.int (J (i))), some (.int (J (j))), some (.ref (x)), some (.int (nI (smN G P p.toNat i j (G.1)))), some (.int (nI (rwN G P p.toNat i j (G.1)))), some (.int (nI (G.1))), none] [] h Q) : ∀ d k : Nat, k + d = G.1 → Ex S to_paste 33 [some (.ref 0), some (.int (J (p))), some (.int (J (i))), some (.int (J (j))), some (.ref (x)), some (.int (nI (smN G P p.toNat i j (k)))), some (.int (nI (rwN G P p.toNat i j (k)))), some (.int (nI (k))), none] [] h Q := by
  obtain ⟨hg1, hg2, hg3⟩ := GO_le hGO
  intro d
  induction d with
  | zero =>
    intro k hkk
    obtain rfl : G.1 = k := by omega
    refine Ex_iload d_to_paste_33 rfl ?_
    refine Ex_aload_n d_to_paste_35 rfl ?_
    refine Ex_getR d_to_paste_36 pf_to_64 rfl (t_0 hs) (r_0_5 hs) ?_
    refine Ex_getIE d_to_paste_39 pf_to_243 rfl (t_29 hs) hG.1 ?_
    refine Ex_icmp_geN (G.1) (G.1) 85 d_to_paste_42 rfl rfl rfl (by omega) (by omega) (fun hc42 => ?_) (fun hc42 => ?_)
    · exact kx
    · exfalso; omega
  | succ d ih =>
    intro k hkk
    have hcl := rwN_le G P p.toNat i j k
    have hcm := cmN_le G P p.toNat i j k G.2.1
    refine Ex_iload d_to_paste_33 rfl ?_
    refine Ex_aload_n d_to_paste_35 rfl ?_
    refine Ex_getR d_to_paste_36 pf_to_64 rfl (t_0 hs) (r_0_5 hs) ?_
    refine Ex_getIE d_to_paste_39 pf_to_243 rfl (t_29 hs) hG.1 ?_
    refine Ex_icmp_geN (k) (G.1) 85 d_to_paste_42 rfl rfl rfl (by omega) (by omega) (fun hc42 => ?_) (fun hc42 => ?_)
    · exfalso; omega
    · refine Ex_aload_n d_to_paste_45 rfl ?_
      refine Ex_aload d_to_paste_46 rfl ?_
      refine Ex_iload d_to_paste_48 rfl ?_
      refine Ex_iload_n d_to_paste_50 rfl ?_
      refine Ex_iload_n d_to_paste_51 rfl ?_
      refine Ex_pV4 (v := .int (nI (cmN G P p.toNat i j k G.2.1))) d_to_paste_52 pk_to_paste_246 (t_0 hs) (to_cellsThatCome_s hs hP hn hQ hG hGO (by omega) hx hi hj (by omega)) ?_
      refine Ex_istore [some (.ref 0), some (.int (J (p))), some (.int (J (i))), some (.int (J (j))), some (.ref (x)), some (.int (nI (smN G P p.toNat i j (k)))), some (.int (nI (rwN G P p.toNat i j (k)))), some (.int (nI (k))), some (.int (nI (cmN G P p.toNat i j k G.2.1)))] d_to_paste_55 (Nat.le_of_ble_eq_true rfl) rfl ?_
      refine Ex_iload d_to_paste_57 rfl ?_
      refine Ex_iload d_to_paste_59 rfl ?_
      refine Ex_iaddN (smN G P p.toNat i j (k)) (cmN G P p.toNat i j k G.2.1) d_to_paste_61 rfl rfl ?_
      refine Ex_istore [some (.ref 0), some (.int (J (p))), some (.int (J (i))), some (.int (J (j))), some (.ref (x)), some (.int (nI ((smN G P p.toNat i j (k)) + (cmN G P p.toNat i j k G.2.1)))), some (.int (nI (rwN G P p.toNat i j (k)))), some (.int (nI (k))), some (.int (nI (cmN G P p.toNat i j k G.2.1)))] d_to_paste_62 (Nat.le_of_ble_eq_true rfl) rfl ?_
      refine Ex_iload d_to_paste_64 rfl ?_
      refine Ex_iload d_to_paste_66 rfl ?_
      refine Ex_if_leN (cmN G P p.toNat i j k G.2.1) 75 d_to_paste_68 rfl rfl (by omega) (fun hc68 => ?_) (fun hc68 => ?_)
      · refine Ex_iconst d_to_paste_75 ic_0 ?_
        refine Ex_iaddN (rwN G P p.toNat i j (k)) (0) d_to_paste_76 rfl rfl ?_
        refine Ex_istore [some (.ref 0), some (.int (J (p))), some (.int (J (i))), some (.int (J (j))), some (.ref (x)), some (.int (nI ((smN G P p.toNat i j (k)) + (cmN G P p.toNat i j k G.2.1)))), some (.int (nI ((rwN G P p.toNat i j (k)) + 0))), some (.int (nI (k))), some (.int (nI (cmN G P p.toNat i j k G.2.1)))] d_to_paste_77 (Nat.le_of_ble_eq_true rfl) rfl ?_
        refine Ex_iincN (k) 1 [some (.ref 0), some (.int (J (p))), some (.int (J (i))), some (.int (J (j))), some (.ref (x)), some (.int (nI ((smN G P p.toNat i j (k)) + (cmN G P p.toNat i j k G.2.1)))), some (.int (nI ((rwN G P p.toNat i j (k)) + 0))), some (.int (nI (k + 1))), some (.int (nI (cmN G P p.toNat i j k G.2.1)))] d_to_paste_79 rfl rfl rfl rfl ?_
        refine Ex_goto 33 d_to_paste_82 rfl ?_
        refine Ex_forget (ls' := [some (.ref 0), some (.int (J (p))), some (.int (J (i))), some (.int (J (j))), some (.ref (x)), some (.int (nI ((smN G P p.toNat i j (k)) + (cmN G P p.toNat i j k G.2.1)))), some (.int (nI ((rwN G P p.toNat i j (k)) + 0))), some (.int (nI (k + 1))), none]) (sub_s (sub_s (sub_s (sub_s (sub_s (sub_s (sub_s (sub_s (sub_n sub_0))))))))) ?_
        have z := ih (k + 1) (by omega)
        rw [show rwN G P p.toNat i j (k + 1) = rwN G P p.toNat i j k + 0 by
          show _ + _ = _
          rw [if_neg (by omega)], show smN G P p.toNat i j (k + 1) = smN G P p.toNat i j k + cmN G P p.toNat i j k G.2.1 from rfl] at z
        exact z
      · refine Ex_iconst d_to_paste_71 ic_1 ?_
        refine Ex_goto 76 d_to_paste_72 rfl ?_
        refine Ex_iaddN (rwN G P p.toNat i j (k)) (1) d_to_paste_76 rfl rfl ?_
        refine Ex_istore [some (.ref 0), some (.int (J (p))), some (.int (J (i))), some (.int (J (j))), some (.ref (x)), some (.int (nI ((smN G P p.toNat i j (k)) + (cmN G P p.toNat i j k G.2.1)))), some (.int (nI ((rwN G P p.toNat i j (k)) + 1))), some (.int (nI (k))), some (.int (nI (cmN G P p.toNat i j k G.2.1)))] d_to_paste_77 (Nat.le_of_ble_eq_true rfl) rfl ?_
        refine Ex_iincN (k) 1 [some (.ref 0), some (.int (J (p))), some (.int (J (i))), some (.int (J (j))), some (.ref (x)), some (.int (nI ((smN G P p.toNat i j (k)) + (cmN G P p.toNat i j k G.2.1)))), some (.int (nI ((rwN G P p.toNat i j (k)) + 1))), some (.int (nI (k + 1))), some (.int (nI (cmN G P p.toNat i j k G.2.1)))] d_to_paste_79 rfl rfl rfl rfl ?_
        refine Ex_goto 33 d_to_paste_82 rfl ?_
        refine Ex_forget (ls' := [some (.ref 0), some (.int (J (p))), some (.int (J (i))), some (.int (J (j))), some (.ref (x)), some (.int (nI ((smN G P p.toNat i j (k)) + (cmN G P p.toNat i j k G.2.1)))), some (.int (nI ((rwN G P p.toNat i j (k)) + 1))), some (.int (nI (k + 1))), none]) (sub_s (sub_s (sub_s (sub_s (sub_s (sub_s (sub_s (sub_s (sub_n sub_0))))))))) ?_
        have z := ih (k + 1) (by omega)
        rw [show rwN G P p.toNat i j (k + 1) = rwN G P p.toNat i j k + 1 by
          show _ + _ = _
          rw [if_pos hc68], show smN G P p.toNat i j (k + 1) = smN G P p.toNat i j k + cmN G P p.toNat i j k G.2.1 from rfl] at z
        exact z
theorem to_paste_s {S : mj_S} {h : mj_H} (hs : HT h) {P : SP} {Y : OW} (hP : PC P Y h) {n : Nat} (hn : n ≤ 40) (hQ : PO n P) {G : SG} (hG : GC G h) (hGO : GO n G) {p i j : Int} (hp : -2147483648 ≤ p ∧ p < 2147483648) (hi : -2147483648 ≤ i ∧ i < 2147483648) (hj : -2147483648 ≤ j ∧ j < 2147483648) : Cl S to_paste [.ref 0, .int (J (p)), .int (J (i)), .int (J (j))] h (AnsN (okPs G P p i j) (smN G P p.toNat i j G.1) (NC (psP G P p i j) Y (rwN G P p.toNat i j G.1) (60 * rwN G P p.toNat i j G.1) h) (WPC Y) h) := by
  show Ex S to_paste 0 [some (.ref 0), some (.int (J (p))), some (.int (J (i))), some (.int (J (j))), none, none, none, none, none] [] h _
  have hnp := hQ.2.2.1
  have hmd : pMd P ≤ 6000 := hQ.1
  obtain ⟨hg1, hg2, hg3⟩ := GO_le hGO
  by_cases hpp : 0 ≤ p ∧ p < pNp P
  · obtain ⟨x, y, hx⟩ := hP.2.1.2 p.toNat (by omega)
    have hB := hx.2.2
    have hok := hQ.2.2.2.1 p.toNat (by omega)
    have hlen := hok.1
    have hx74 := hx.1.1
    have hy74 := hx.1.2.1
    refine Ex_aload_n d_to_paste_0 rfl ?_
    refine Ex_iload_n d_to_paste_1 rfl ?_
    refine Ex_pV1 (v := .ref (x)) d_to_paste_2 pk_to_paste_139 (t_0 hs) (to_patternOf_z hs hP hQ hpp hx) ?_
    refine Ex_astore [some (.ref 0), some (.int (J (p))), some (.int (J (i))), some (.int (J (j))), some (.ref (x)), none, none, none, none] d_to_paste_5 (Nat.le_of_ble_eq_true rfl) rfl ?_
    refine Ex_aload d_to_paste_7 rfl ?_
    refine Ex_ifnull d_to_paste_9 ?_
    refine Ex_aload_n d_to_paste_12 rfl ?_
    refine Ex_getR d_to_paste_13 pf_to_64 rfl (t_0 hs) (r_0_5 hs) ?_
    refine Ex_pV0 (v := .int (bI (decide (G.1 = 0)))) d_to_paste_16 pk_to_paste_236 (t_29 hs) (bl_isNothing_s hs bk29 hG (by omega)) ?_
    refine Ex_if_eqB (decide (G.1 = 0)) 24 d_to_paste_19 rfl rfl (fun hc19 => ?_) (fun hc19 => ?_)
    · rw [decide_eq_false_iff_not] at hc19
      refine Ex_iconst d_to_paste_24 ic_0 ?_
      refine Ex_istore [some (.ref 0), some (.int (J (p))), some (.int (J (i))), some (.int (J (j))), some (.ref (x)), some (.int (0)), none, none, none] d_to_paste_25 (Nat.le_of_ble_eq_true rfl) rfl ?_
      refine Ex_iconst d_to_paste_27 ic_0 ?_
      refine Ex_istore [some (.ref 0), some (.int (J (p))), some (.int (J (i))), some (.int (J (j))), some (.ref (x)), some (.int (0)), some (.int (0)), none, none] d_to_paste_28 (Nat.le_of_ble_eq_true rfl) rfl ?_
      refine Ex_iconst d_to_paste_30 ic_0 ?_
      refine Ex_istore [some (.ref 0), some (.int (J (p))), some (.int (J (i))), some (.int (J (j))), some (.ref (x)), some (.int (0)), some (.int (0)), some (.int (0)), none] d_to_paste_31 (Nat.le_of_ble_eq_true rfl) rfl ?_
      refine Ex_forget (ls' := [some (.ref 0), some (.int (J (p))), some (.int (J (i))), some (.int (J (j))), some (.ref (x)), some (.int (0)), some (.int (0)), some (.int (0)), none]) (sub_s (sub_s (sub_s (sub_s (sub_s (sub_s (sub_s (sub_s (sub_n sub_0))))))))) (to_paste_L hs hP hn hQ hG hGO hpp hx hi hj ?_ G.1 0 (by omega))
      have hsl := smN_le G P p.toNat i j hg2 G.1
      have hrl := rwN_le G P p.toNat i j G.1
      have hrs := rw_sm G P p.toNat i j G.1
      refine Ex_iload d_to_paste_85 rfl ?_
      refine Ex_aload_n d_to_paste_87 rfl ?_
      refine Ex_getR d_to_paste_88 pf_to_42 rfl (t_0 hs) (r_0_1 hs) ?_
      refine Ex_pV0 (v := .int (nI (6000 - pMd P))) d_to_paste_91 pk_to_paste_149 (t_21 hs) (rs_left_s hs hP.1 hQ) ?_
      refine Ex_icmp_leN (rwN G P p.toNat i j (G.1)) (6000 - pMd P) 99 d_to_paste_94 rfl rfl rfl (by omega) (by omega) (fun hc94 => ?_) (fun hc94 => ?_)
      · refine Ex_iload d_to_paste_99 rfl ?_
        refine Ex_if_leN (smN G P p.toNat i j (G.1)) 122 d_to_paste_101 rfl rfl (by omega) (fun hc101 => ?_) (fun hc101 => ?_)
        · refine Ex_iload d_to_paste_122 rfl ?_
          refine Ex_ireturn d_to_paste_124 rfl ?_
          refine Or.inr ⟨⟨by omega, by omega, by omega, by omega⟩, rfl, ⟨⟨Y, OwE.rf, ?_⟩, ?_⟩, Fr.rf⟩
          · unfold psP
            rw [if_neg (by omega)]
            exact hP
          · rw [hrs.mpr (by omega)]
            exact ⟨rfl, Nat.le_refl _⟩
        · refine Ex_aload_n d_to_paste_104 rfl ?_
          refine Ex_getR d_to_paste_105 pf_to_55 rfl (t_0 hs) (r_0_4 hs) ?_
          refine Ex_iload_n d_to_paste_108 rfl ?_
          refine Ex_aload d_to_paste_109 rfl ?_
          refine Ex_cV2 d_to_paste_111 pk_to_paste_153 (t_25 hs) (show Cl S hi_remember [.ref 25, .int (J p), .ref x] h (fun r h1 => r = none ∧ HiC (keepP P p.toNat) h1 ∧ Fr WHc h h1) by rw [J_pos hpp.1]; exact hi_remember_s (p := p.toNat) hs hP.2.2 hQ hB hlen hx74 hy74) ?_
          rintro rv h1 ⟨rfl, hH1, f1⟩
          have hs1 : HT h1 := f1.ht hs WHc_st
          have hP1 : PC (keepP P p.toNat) Y h1 := PC_hi hs hP f1 hH1
          have hx1 : PaC1 (keepP P p.toNat) Y h1 p.toNat x y := PaC1_hi hs f1 hx
          have hG1 : GC G h1 := GC_fr hs f1 (by intro x k; unfold Wbk WHc; omega) hG
          show Ex S to_paste 114 [some (.ref 0), some (.int (J (p))), some (.int (J (i))), some (.int (J (j))), some (.ref (x)), some (.int (nI (smN G P p.toNat i j (G.1)))), some (.int (nI (rwN G P p.toNat i j (G.1)))), some (.int (nI (G.1))), none] [] h1 _
          refine Ex_aload_n d_to_paste_114 rfl ?_
          refine Ex_aload d_to_paste_115 rfl ?_
          refine Ex_iload_n d_to_paste_117 rfl ?_
          refine Ex_iload_n d_to_paste_118 rfl ?_
          refine Ex_cV3 d_to_paste_119 pk_to_paste_250 (t_0 hs1) (to_pasteRows_s hs1 hn (PO_keep hQ (show p.toNat < pNp P by omega)) hG1 hGO (show p.toNat < pNp P by omega) hx1 hi hj (by rw [ShE_keep.rw]; show pMd P + rwN G P p.toNat i j G.1 ≤ 6000; omega) hP1) ?_
          rintro rv h2 ⟨rfl, Y2, oY2, hP2, hx2, f2, g2⟩
          rw [ShE_keep.rw] at g2
          show Ex S to_paste 122 [some (.ref 0), some (.int (J (p))), some (.int (J (i))), some (.int (J (j))), some (.ref (x)), some (.int (nI (smN G P p.toNat i j (G.1)))), some (.int (nI (rwN G P p.toNat i j (G.1)))), some (.int (nI (G.1))), none] [] h2 _
          refine Ex_iload d_to_paste_122 rfl ?_
          refine Ex_ireturn d_to_paste_124 rfl ?_
          refine Or.inr ⟨⟨by omega, by omega, by omega, by omega⟩, rfl, ⟨⟨Y2, (fun k hk => oY2 k (by have := f1.le; omega)), ?_⟩, ?_⟩, (f1.mono WHc_C).tr f2⟩
          · unfold psP
            rw [if_pos (by omega)]
            exact hP2
          · have z := (Gr.of f1 WHc_0).tr g2
            rw [Nat.zero_add, Nat.zero_add] at z
            exact z
      · refine Ex_iconst d_to_paste_97 ic_m1 ?_
        refine Ex_ireturn d_to_paste_98 rfl ?_
        exact Or.inl ⟨by unfold okPs; omega, rfl, rfl⟩
    · rw [decide_eq_true_eq] at hc19
      refine Ex_iconst d_to_paste_22 ic_m1 ?_
      refine Ex_ireturn d_to_paste_23 rfl ?_
      exact Or.inl ⟨by unfold okPs; omega, rfl, rfl⟩
  · refine Ex_aload_n d_to_paste_0 rfl ?_
    refine Ex_iload_n d_to_paste_1 rfl ?_
    refine Ex_pV1 (v := .null) d_to_paste_2 pk_to_paste_139 (t_0 hs) (to_patternOf_n hs hP hQ hp hpp) ?_
    refine Ex_astore0 [some (.ref 0), some (.int (J (p))), some (.int (J (i))), some (.int (J (j))), some (.null), none, none, none, none] d_to_paste_5 (Nat.le_of_ble_eq_true rfl) rfl ?_
    refine Ex_aload0 d_to_paste_7 rfl ?_
    refine Ex_ifnull0 22 d_to_paste_9 rfl ?_
    refine Ex_iconst d_to_paste_22 ic_m1 ?_
    refine Ex_ireturn d_to_paste_23 rfl ?_
    exact Or.inl ⟨fun z => hpp ⟨z.1, z.2.1⟩, rfl, rfl⟩
