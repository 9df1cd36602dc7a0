/-! FULL patterns; the reference: isFull, movedCell, isMoved, kept, congruent, isFound. -/
noncomputable def tfB (p : Prop) : Bool := @decide p (Classical.propDecidable p)
theorem tfB_t {p : Prop} (h : p) : tfB p = true := @decide_eq_true p (Classical.propDecidable p) h
theorem tfB_f {p : Prop} (h : ¬ p) : tfB p = false := @decide_eq_false p (Classical.propDecidable p) h
theorem tfB_iff {p : Prop} : tfB p = true ↔ p := @decide_eq_true_iff p (Classical.propDecidable p)
theorem tfB_ff {p : Prop} (h : tfB p = false) : ¬ p := fun z => by rw [tfB_t z] at h; cases h
theorem PuB_P {p : Prop} {h : mj_H} {r : Option Value} {h1 : mj_H} (q : PuB p h r h1) : Pu (.int (bI (tfB p))) h r h1 := by
  obtain ⟨rfl, v, rfl, hv⟩ := q
  refine ⟨?_, rfl⟩
  cases v with
  | true => rw [tfB_t (hv.mp rfl)]
  | false => rw [tfB_f (fun z => by have := hv.mpr z; cases this)]
abbrev wd (P : SP) (p : Nat) : Nat := gL (lp P p) 0
abbrev ln (P : SP) (p : Nat) : Nat := (pPat P p).length
def fullP (P : SP) (p : Nat) : Prop := 0 < ln P p ∧ 0 < wd P p ∧ ∀ i, i < ln P p → gO (lp P p) i = 0 ∧ gL (lp P p) i = wd P p
theorem full_at {n : Nat} {P : SP} (hQ : PO n P) {p i j : Nat} (hp : p < pNp P) (hf : fullP P p) (hi : i < ln P p) (hj : j < wd P p) : cAt P p (i : Int) (j : Int) = some (gX (lp P p) i j) := by
  obtain ⟨h1, h2⟩ := hf.2.2 i hi
  have z := cell_at hQ hp hi (k := j) (by rw [h2]; exact hj)
  rw [h1, Int.zero_add] at z
  exact z
def mvX (K : SK) (P : SP) (p m i j : Nat) : Tl := mvT K (gX (lp P p) (frI m (ln P p) (wd P p) i j) (frJ m (ln P p) (wd P p) i j)) m
abbrev tRp (P : SP) (p m : Nat) : Nat := tR m (ln P p) (wd P p)
abbrev tCp (P : SP) (p m : Nat) : Nat := tC m (ln P p) (wd P p)
def mvP (K : SK) (P : SP) (p m q : Nat) : Prop := tRp P p m = ln P q ∧ tCp P p m = wd P q ∧ ∀ k, k < tRp P p m * tCp P p m → mvX K P p m (k / tCp P p m) (k % tCp P p m) = gX (lp P q) (k / tCp P p m) (k % tCp P p m)
def fnP (K : SK) (P : SP) (p q : Nat) (i j : Int) (m : Nat) : Prop := ∀ k, k < tRp P q m * tCp P q m → cAt P p (i + ((k / tCp P q m : Nat) : Int)) (j + ((k % tCp P q m : Nat) : Int)) = some (mvX K P q m (k / tCp P q m) (k % tCp P q m))
def kbits (f : Nat → Bool) : Nat → Nat
  | 0 => 0
  | m + 1 => kbits f m + (if f m = true then 2 ^ m else 0)
theorem kbits_lt (f : Nat → Bool) : ∀ m, kbits f m < 2 ^ m
  | 0 => Nat.zero_lt_one
  | m + 1 => by
    have := kbits_lt f m
    unfold kbits
    rw [Nat.pow_succ]
    split <;> omega
theorem kb_or {x m : Nat} (h : x < 2 ^ m) : nI x ||| nI (2 ^ m) = nI (x + 2 ^ m) := by
  rw [nI_or]
  have := Nat.two_pow_add_eq_or_of_lt h 1
  rw [Nat.mul_one] at this
  rw [Nat.or_comm, ← this, Nat.add_comm]
theorem kb_0 (x : Nat) : nI x ||| 0 = nI x := by
  show nI x ||| nI 0 = nI x
  rw [nI_or, Nat.or_zero]
noncomputable def keptS (K : SK) (P : SP) (p : Int) : Int := if 0 ≤ p ∧ p < pNp P then (if tfB (fullP P p.toNat) = true then (kbits (fun m => tfB (mvP K P p.toNat m p.toNat)) 8 : Int) else 0) else -1
noncomputable def cgF (K : SK) (P : SP) (p q m : Nat) : Option Int := if tfB (mvP K P p m q) = true then some (m : Int) else none
noncomputable def congS (K : SK) (P : SP) (p q : Int) : Int := if 0 ≤ p ∧ p < pNp P ∧ 0 ≤ q ∧ q < pNp P ∧ tfB (fullP P p.toNat) = true ∧ tfB (fullP P q.toNat) = true then (first (cgF K P p.toNat q.toNat) 8 0).getD (-1) else -1
theorem Ex_ls {S : mj_S} {μ : mj_Y} {pc : Nat} {ls ls' : mj_L} {st : List Value} {h : mj_H} {Q : Option Value → mj_H → Prop} (e : ls = ls') (k : Ex S μ pc ls' st h Q) : Ex S μ pc ls st h Q := e ▸ k
def Wf8 (a k : Nat) : Prop := a = 38 ∧ (k = 18 ∨ k = 19)
theorem Wf8_st : ∀ q ∈ statR, ¬ Wf8 q.1 q.2.1 := by unfold Wf8; decide
theorem PM_8 {P : SP} {h h' : mj_H} (hs : HT h) (f : Fr Wf8 h h') (hP : PM P h) : PM P h' := PM_fr hs f (by intro a k; unfold WPM Wf8; omega) hP
theorem KM_8 {K : SK} {h h' : mj_H} (hs : HT h) (f : Fr Wf8 h h') (hP : KM K h) : KM K h' := KM_fr hs f (by intro a k; unfold WKM Wf8; omega) hP
def PuF (v : Value) (W : Nat → Nat → Prop) (h : mj_H) : Option Value → mj_H → Prop := fun r h1 => r = some v ∧ Fr W h h1
theorem rm_isFull_L {S : mj_S} {h : mj_H} (hs : HT h) {K : SK} (hK : KM K h) (hO : KO K) {P : SP} (hP : PM P h) (hQ : PO K.1 P) {p : Nat} (hp : p < pNp P) (h0 : 0 < ln P p) (h1 : 0 < wd P p) : ∀ e i : Nat, i + e = ln P p → (∀ u, u < i → (gO (lp P p) u = 0 ∧ gL (lp P p) u = wd P p)) → Ex S rm_isFull 31 [some (.ref 38), some (.int (nI (p))), some (.int (1)), some (.int (nI (i)))] [] h (Pu (.int (bI (tfB (fullP P p)))) h) := by
  have hokl := hQ.2.2.2.1 p hp
  have hl60 : ln P p ≤ 60 := hokl.1
  have hLO : LO K.1 (lp P p) := lv0_ok hQ hokl
  have hmd : pMd P ≤ 6000 := hQ.1
  have hnp := hQ.2.2.1
  have hk40 := hO.1
  have hwe : gL (lp P p) 0 = wd P p := rfl
  have hle : (pPat P p).length = ln P p := rfl
  have hrow0 := PO_row hQ hp (i := 0) h0
  have hw60 := (hLO.2 0 h0).1
  intro e
  induction e with
  | zero =>
    intro i hie hev
    obtain rfl : ln P p = i := by omega
    refine Ex_iload_n d_rm_isFull_31 rfl ?_
    refine Ex_if_eqN (1) 96 d_rm_isFull_32 rfl rfl (by omega) (fun hc32 => ?_) (fun hc32 => ?_)
    · exact absurd hc32 (by decide)
    · refine Ex_iload_n d_rm_isFull_35 rfl ?_
      refine Ex_aload_n d_rm_isFull_36 rfl ?_
      refine Ex_getR (v := .ref 48) d_rm_isFull_37 pf_rm_40 rfl (t_38 hs) (r_38_11 hs) ?_
      refine Ex_iload_n d_rm_isFull_40 rfl ?_
      refine Ex_ialoadN (a := p) (y := (nI (ln P p))) d_rm_isFull_41 (t_48 hs) rfl (by omega) (by decide) (hP.2.1.2 p hp).1 ?_
      refine Ex_icmp_geN (ln P p) (ln P p) 96 d_rm_isFull_42 rfl rfl rfl (by omega) (by omega) (fun hc42 => ?_) (fun hc42 => ?_)
      · refine Ex_iload_n d_rm_isFull_96 rfl ?_
        refine Ex_zreturn d_rm_isFull_97 rfl (by decide) ?_
        exact ⟨by rw [tfB_t (p := fullP P p) ⟨h0, h1, hev⟩]; rfl, rfl⟩
      · exfalso; omega
  | succ e ih =>
    intro i hie hev
    have hi : i < ln P p := by omega
    have hrow := PO_row hQ hp hi
    have hli := (hLO.2 i hi).1
    refine Ex_iload_n d_rm_isFull_31 rfl ?_
    refine Ex_if_eqN (1) 96 d_rm_isFull_32 rfl rfl (by omega) (fun hc32 => ?_) (fun hc32 => ?_)
    · exact absurd hc32 (by decide)
    · refine Ex_iload_n d_rm_isFull_35 rfl ?_
      refine Ex_aload_n d_rm_isFull_36 rfl ?_
      refine Ex_getR (v := .ref 48) d_rm_isFull_37 pf_rm_40 rfl (t_38 hs) (r_38_11 hs) ?_
      refine Ex_iload_n d_rm_isFull_40 rfl ?_
      refine Ex_ialoadN (a := p) (y := (nI (ln P p))) d_rm_isFull_41 (t_48 hs) rfl (by omega) (by decide) (hP.2.1.2 p hp).1 ?_
      refine Ex_icmp_geN (i) (ln P p) 96 d_rm_isFull_42 rfl rfl rfl (by omega) (by omega) (fun hc42 => ?_) (fun hc42 => ?_)
      · exfalso; omega
      · refine Ex_aload_n d_rm_isFull_45 rfl ?_
        refine Ex_getR (v := .ref 45) d_rm_isFull_46 pf_rm_30 rfl (t_38 hs) (r_38_7 hs) ?_
        refine Ex_aload_n d_rm_isFull_49 rfl ?_
        refine Ex_iload_n d_rm_isFull_50 rfl ?_
        refine Ex_iload_n d_rm_isFull_51 rfl ?_
        refine Ex_pV2 (v := .int (nI ((pPat P p).getD i 0))) d_rm_isFull_52 pk_rm_isFull_175 (t_38 hs) (rm_rowOf_p hs hP.2.1 hQ hp (i := i) (by omega)) ?_
        refine Ex_ialoadN (a := (pPat P p).getD i 0) (y := (J (gO (lp P p) i))) d_rm_isFull_55 (t_45 hs) rfl (by omega) (by decide) (hP.1.2 _ (PO_row hQ hp (i := i) (by omega))).2.1 ?_
        refine Ex_if_neZ (gO (lp P p) i) 88 d_rm_isFull_56 rfl rfl (by omega) (fun hc56 => ?_) (fun hc56 => ?_)
        · refine Ex_iconst d_rm_isFull_88 ic_0 ?_
          refine Ex_istore_n [some (.ref 38), some (.int (nI (p))), some (.int (0)), some (.int (nI (i)))] d_rm_isFull_89 (Nat.le_of_ble_eq_true rfl) rfl ?_
          refine Ex_iincN (i) 1 [some (.ref 38), some (.int (nI (p))), some (.int (0)), some (.int (nI (i + 1)))] d_rm_isFull_90 rfl rfl rfl rfl ?_
          refine Ex_goto 31 d_rm_isFull_93 rfl ?_
          refine Ex_iload_n d_rm_isFull_31 rfl ?_
          refine Ex_if_eqN (0) 96 d_rm_isFull_32 rfl rfl (by omega) (fun hc32 => ?_) (fun hc32 => ?_)
          · refine Ex_iload_n d_rm_isFull_96 rfl ?_
            refine Ex_zreturn d_rm_isFull_97 rfl (by decide) ?_
            exact ⟨by rw [tfB_f (p := fullP P p) (fun z => by have := z.2.2 i hi; omega)]; rfl, rfl⟩
          · exact absurd hc32 (by decide)
        · refine Ex_aload_n d_rm_isFull_59 rfl ?_
          refine Ex_getR (v := .ref 44) d_rm_isFull_60 pf_rm_27 rfl (t_38 hs) (r_38_6 hs) ?_
          refine Ex_aload_n d_rm_isFull_63 rfl ?_
          refine Ex_iload_n d_rm_isFull_64 rfl ?_
          refine Ex_iload_n d_rm_isFull_65 rfl ?_
          refine Ex_pV2 (v := .int (nI ((pPat P p).getD i 0))) d_rm_isFull_66 pk_rm_isFull_175 (t_38 hs) (rm_rowOf_p hs hP.2.1 hQ hp (i := i) (by omega)) ?_
          refine Ex_ialoadN (a := (pPat P p).getD i 0) (y := (nI (gL (lp P p) i))) d_rm_isFull_69 (t_44 hs) rfl (by omega) (by decide) (hP.1.2 _ (PO_row hQ hp (i := i) (by omega))).1 ?_
          refine Ex_aload_n d_rm_isFull_70 rfl ?_
          refine Ex_getR (v := .ref 44) d_rm_isFull_71 pf_rm_27 rfl (t_38 hs) (r_38_6 hs) ?_
          refine Ex_aload_n d_rm_isFull_74 rfl ?_
          refine Ex_iload_n d_rm_isFull_75 rfl ?_
          refine Ex_iconst d_rm_isFull_76 ic_0 ?_
          refine Ex_pV2 (v := .int (nI ((pPat P p).getD 0 0))) d_rm_isFull_77 pk_rm_isFull_175 (t_38 hs) (rm_rowOf_p hs hP.2.1 hQ hp (i := 0) (by omega)) ?_
          refine Ex_ialoadN (a := (pPat P p).getD 0 0) (y := (nI (gL (lp P p) 0))) d_rm_isFull_80 (t_44 hs) rfl (by omega) (by decide) (hP.1.2 _ (PO_row hQ hp (i := 0) (by omega))).1 ?_
          refine Ex_icmp_neN (gL (lp P p) i) (gL (lp P p) 0) 88 d_rm_isFull_81 rfl rfl rfl (by omega) (by omega) (fun hc81 => ?_) (fun hc81 => ?_)
          · refine Ex_iconst d_rm_isFull_88 ic_0 ?_
            refine Ex_istore_n [some (.ref 38), some (.int (nI (p))), some (.int (0)), some (.int (nI (i)))] d_rm_isFull_89 (Nat.le_of_ble_eq_true rfl) rfl ?_
            refine Ex_iincN (i) 1 [some (.ref 38), some (.int (nI (p))), some (.int (0)), some (.int (nI (i + 1)))] d_rm_isFull_90 rfl rfl rfl rfl ?_
            refine Ex_goto 31 d_rm_isFull_93 rfl ?_
            refine Ex_iload_n d_rm_isFull_31 rfl ?_
            refine Ex_if_eqN (0) 96 d_rm_isFull_32 rfl rfl (by omega) (fun hc32 => ?_) (fun hc32 => ?_)
            · refine Ex_iload_n d_rm_isFull_96 rfl ?_
              refine Ex_zreturn d_rm_isFull_97 rfl (by decide) ?_
              exact ⟨by rw [tfB_f (p := fullP P p) (fun z => by have := z.2.2 i hi; omega)]; rfl, rfl⟩
            · exact absurd hc32 (by decide)
          · refine Ex_iconst d_rm_isFull_84 ic_1 ?_
            refine Ex_goto 89 d_rm_isFull_85 rfl ?_
            refine Ex_istore_n [some (.ref 38), some (.int (nI (p))), some (.int (1)), some (.int (nI (i)))] d_rm_isFull_89 (Nat.le_of_ble_eq_true rfl) rfl ?_
            refine Ex_iincN (i) 1 [some (.ref 38), some (.int (nI (p))), some (.int (1)), some (.int (nI (i + 1)))] d_rm_isFull_90 rfl rfl rfl rfl ?_
            refine Ex_goto 31 d_rm_isFull_93 rfl ?_
            refine ih (i + 1) (by omega) (fun u hu => ?_)
            by_cases hui : u = i
            · rw [hui]; omega
            · exact hev u (by omega)
theorem rm_isFull_s {S : mj_S} {h : mj_H} (hs : HT h) {K : SK} (hK : KM K h) (hO : KO K) {P : SP} (hP : PM P h) (hQ : PO K.1 P) {p : Nat} (hp : p < pNp P) : Cl S rm_isFull [.ref 38, .int (nI (p))] h (Pu (.int (bI (tfB (fullP P p)))) h) := by
  show Ex S rm_isFull 0 [some (.ref 38), some (.int (nI (p))), none, none] [] h _
  have hokl := hQ.2.2.2.1 p hp
  have hl60 : ln P p ≤ 60 := hokl.1
  have hLO : LO K.1 (lp P p) := lv0_ok hQ hokl
  have hmd : pMd P ≤ 6000 := hQ.1
  have hnp := hQ.2.2.1
  have hk40 := hO.1
  have hwe : gL (lp P p) 0 = wd P p := rfl
  have hle : (pPat P p).length = ln P p := rfl
  refine Ex_aload_n d_rm_isFull_0 rfl ?_
  refine Ex_getR (v := .ref 48) d_rm_isFull_1 pf_rm_40 rfl (t_38 hs) (r_38_11 hs) ?_
  refine Ex_iload_n d_rm_isFull_4 rfl ?_
  refine Ex_ialoadN (a := p) (y := (nI (ln P p))) d_rm_isFull_5 (t_48 hs) rfl (by omega) (by decide) (hP.2.1.2 p hp).1 ?_
  refine Ex_if_leN (ln P p) 27 d_rm_isFull_6 rfl rfl (by omega) (fun hc6 => ?_) (fun hc6 => ?_)
  · refine Ex_iconst d_rm_isFull_27 ic_0 ?_
    refine Ex_istore_n [some (.ref 38), some (.int (nI (p))), some (.int (0)), none] d_rm_isFull_28 (Nat.le_of_ble_eq_true rfl) rfl ?_
    refine Ex_iconst d_rm_isFull_29 ic_0 ?_
    refine Ex_istore_n [some (.ref 38), some (.int (nI (p))), some (.int (0)), some (.int (0))] d_rm_isFull_30 (Nat.le_of_ble_eq_true rfl) rfl ?_
    refine Ex_iload_n d_rm_isFull_31 rfl ?_
    refine Ex_if_eqN (0) 96 d_rm_isFull_32 rfl rfl (by omega) (fun hc32 => ?_) (fun hc32 => ?_)
    · refine Ex_iload_n d_rm_isFull_96 rfl ?_
      refine Ex_zreturn d_rm_isFull_97 rfl (by decide) ?_
      exact ⟨by rw [tfB_f (p := fullP P p) (fun z => by have := z.1; have := z.2.1; omega)]; rfl, rfl⟩
    · exact absurd hc32 (by decide)
  · have hrow0 := PO_row hQ hp (i := 0) hc6
    have hw60 := (hLO.2 0 hc6).1
    refine Ex_aload_n d_rm_isFull_9 rfl ?_
    refine Ex_getR (v := .ref 44) d_rm_isFull_10 pf_rm_27 rfl (t_38 hs) (r_38_6 hs) ?_
    refine Ex_aload_n d_rm_isFull_13 rfl ?_
    refine Ex_iload_n d_rm_isFull_14 rfl ?_
    refine Ex_iconst d_rm_isFull_15 ic_0 ?_
    refine Ex_pV2 (v := .int (nI ((pPat P p).getD 0 0))) d_rm_isFull_16 pk_rm_isFull_175 (t_38 hs) (rm_rowOf_p hs hP.2.1 hQ hp (i := 0) (by omega)) ?_
    refine Ex_ialoadN (a := (pPat P p).getD 0 0) (y := (nI (gL (lp P p) 0))) d_rm_isFull_19 (t_44 hs) rfl (by omega) (by decide) (hP.1.2 _ (PO_row hQ hp (i := 0) (by omega))).1 ?_
    refine Ex_if_leN (gL (lp P p) 0) 27 d_rm_isFull_20 rfl rfl (by omega) (fun hc20 => ?_) (fun hc20 => ?_)
    · refine Ex_iconst d_rm_isFull_27 ic_0 ?_
      refine Ex_istore_n [some (.ref 38), some (.int (nI (p))), some (.int (0)), none] d_rm_isFull_28 (Nat.le_of_ble_eq_true rfl) rfl ?_
      refine Ex_iconst d_rm_isFull_29 ic_0 ?_
      refine Ex_istore_n [some (.ref 38), some (.int (nI (p))), some (.int (0)), some (.int (0))] d_rm_isFull_30 (Nat.le_of_ble_eq_true rfl) rfl ?_
      refine Ex_iload_n d_rm_isFull_31 rfl ?_
      refine Ex_if_eqN (0) 96 d_rm_isFull_32 rfl rfl (by omega) (fun hc32 => ?_) (fun hc32 => ?_)
      · refine Ex_iload_n d_rm_isFull_96 rfl ?_
        refine Ex_zreturn d_rm_isFull_97 rfl (by decide) ?_
        exact ⟨by rw [tfB_f (p := fullP P p) (fun z => by have := z.1; have := z.2.1; omega)]; rfl, rfl⟩
      · exact absurd hc32 (by decide)
    · refine Ex_iconst d_rm_isFull_23 ic_1 ?_
      refine Ex_goto 28 d_rm_isFull_24 rfl ?_
      refine Ex_istore_n [some (.ref 38), some (.int (nI (p))), some (.int (1)), none] d_rm_isFull_28 (Nat.le_of_ble_eq_true rfl) rfl ?_
      refine Ex_iconst d_rm_isFull_29 ic_0 ?_
      refine Ex_istore_n [some (.ref 38), some (.int (nI (p))), some (.int (1)), some (.int (0))] d_rm_isFull_30 (Nat.le_of_ble_eq_true rfl) rfl ?_
      exact rm_isFull_L hs hK hO hP hQ hp hc6 hc20 (ln P p) 0 (by omega) (fun u hu => absurd hu (by omega))
theorem rm_wide_s {S : mj_S} {h : mj_H} (hs : HT h) {K : SK} (hK : KM K h) (hO : KO K) {P : SP} (hP : PM P h) (hQ : PO K.1 P) {p : Nat} (hp : p < pNp P) (h0 : 0 < ln P p) : Cl S rm_wide [.ref 38, .int (nI (p))] h (Pu (.int (nI (wd P p))) h) := by
  show Ex S rm_wide 0 [some (.ref 38), some (.int (nI (p)))] [] h _
  have hokl := hQ.2.2.2.1 p hp
  have hl60 : ln P p ≤ 60 := hokl.1
  have hLO : LO K.1 (lp P p) := lv0_ok hQ hokl
  have hmd : pMd P ≤ 6000 := hQ.1
  have hnp := hQ.2.2.1
  have hk40 := hO.1
  have hwe : gL (lp P p) 0 = wd P p := rfl
  have hle : (pPat P p).length = ln P p := rfl
  have hrow0 := PO_row hQ hp (i := 0) h0
  refine Ex_aload_n d_rm_wide_0 rfl ?_
  refine Ex_getR (v := .ref 44) d_rm_wide_1 pf_rm_27 rfl (t_38 hs) (r_38_6 hs) ?_
  refine Ex_aload_n d_rm_wide_4 rfl ?_
  refine Ex_iload_n d_rm_wide_5 rfl ?_
  refine Ex_iconst d_rm_wide_6 ic_0 ?_
  refine Ex_pV2 (v := .int (nI ((pPat P p).getD 0 0))) d_rm_wide_7 pk_rm_wide_175 (t_38 hs) (rm_rowOf_p hs hP.2.1 hQ hp (i := 0) (by omega)) ?_
  refine Ex_ialoadN (a := (pPat P p).getD 0 0) (y := (nI (gL (lp P p) 0))) d_rm_wide_10 (t_44 hs) rfl (by omega) (by decide) (hP.1.2 _ (PO_row hQ hp (i := 0) (by omega))).1 ?_
  refine Ex_ireturn d_rm_wide_11 rfl ?_
  exact ⟨rfl, rfl⟩
theorem rm_movedCell_s {S : mj_S} {h : mj_H} (hs : HT h) {K : SK} (hK : KM K h) (hO : KO K) {P : SP} (hP : PM P h) (hQ : PO K.1 P) {p : Nat} (hp : p < pNp P) (hf : fullP P p) {m : Nat} (hm : m < 8) {i j : Nat} (hi : i < tRp P p m) (hj : j < tCp P p m) : Cl S rm_movedCell [.ref 38, .int (nI (p)), .int (nI (m)), .int (nI (i)), .int (nI (j))] h (PuF (.int (eM (mvX K P p m i j))) Wf8 h) := by
  show Ex S rm_movedCell 0 [some (.ref 38), some (.int (nI (p))), some (.int (nI (m))), some (.int (nI (i))), some (.int (nI (j)))] [] h _
  have hokl := hQ.2.2.2.1 p hp
  have hl60 : ln P p ≤ 60 := hokl.1
  have hLO : LO K.1 (lp P p) := lv0_ok hQ hokl
  have hmd : pMd P ≤ 6000 := hQ.1
  have hnp := hQ.2.2.1
  have hk40 := hO.1
  have hwe : gL (lp P p) 0 = wd P p := rfl
  have hle : (pPat P p).length = ln P p := rfl
  have hw60 := (hLO.2 0 hf.1).1
  obtain ⟨g3, g4⟩ := fr_lt hi hj
  refine Ex_aload_n d_rm_movedCell_0 rfl ?_
  refine Ex_iload_n d_rm_movedCell_1 rfl ?_
  refine Ex_aload_n d_rm_movedCell_2 rfl ?_
  refine Ex_getR (v := .ref 48) d_rm_movedCell_3 pf_rm_40 rfl (t_38 hs) (r_38_11 hs) ?_
  refine Ex_iload_n d_rm_movedCell_6 rfl ?_
  refine Ex_ialoadN (a := p) (y := (nI (ln P p))) d_rm_movedCell_7 (t_48 hs) rfl (by omega) (by decide) (hP.2.1.2 p hp).1 ?_
  refine Ex_aload_n d_rm_movedCell_8 rfl ?_
  refine Ex_iload_n d_rm_movedCell_9 rfl ?_
  refine Ex_pV1 (v := .int (nI (wd P p))) d_rm_movedCell_10 pk_rm_movedCell_269 (t_38 hs) (rm_wide_s hs hK hO hP hQ hp hf.1) ?_
  refine Ex_iload_n d_rm_movedCell_13 rfl ?_
  refine Ex_iload d_rm_movedCell_14 rfl ?_
  refine Ex_cV5 d_rm_movedCell_16 pk_rm_movedCell_227 (t_38 hs) (rm_comesFrom_s hs hm hl60 (by omega) hi hj) ?_
  rintro rv h1 ⟨rfl, w1, w2, f1⟩
  have f1 : Fr Wf8 h h1 := f1
  have hs1 : HT h1 := f1.ht hs Wf8_st
  have hP1 := PM_8 hs f1 hP
  have hK1 := KM_8 hs f1 hK
  show Ex S rm_movedCell 19 [some (.ref 38), some (.int (nI (p))), some (.int (nI (m))), some (.int (nI (i))), some (.int (nI (j)))] [] h1 _
  refine Ex_aload_n d_rm_movedCell_19 rfl ?_
  refine Ex_aload_n d_rm_movedCell_20 rfl ?_
  refine Ex_iload_n d_rm_movedCell_21 rfl ?_
  refine Ex_aload_n d_rm_movedCell_22 rfl ?_
  refine Ex_getIE (y := (nI (frI m (ln P p) (wd P p) i j))) d_rm_movedCell_23 pf_rm_215 rfl (t_38 hs1) w1 ?_
  refine Ex_aload_n d_rm_movedCell_26 rfl ?_
  refine Ex_getIE (y := (nI (frJ m (ln P p) (wd P p) i j))) d_rm_movedCell_27 pf_rm_218 rfl (t_38 hs1) w2 ?_
  refine Ex_pV3 (v := .int (eM (gX (lp P p) (frI m (ln P p) (wd P p) i j) (frJ m (ln P p) (wd P p) i j)))) d_rm_movedCell_30 pk_rm_movedCell_212 (t_38 hs1) (by rw [nIJ (frI m (ln P p) (wd P p) i j), nIJ (frJ m (ln P p) (wd P p) i j)]; exact rm_cellAt_s hs1 hP1 hQ hp (full_at hQ hp hf g3 g4)) ?_
  refine Ex_iload_n d_rm_movedCell_33 rfl ?_
  refine Ex_pV2 (v := .int (eM (mvX K P p m i j))) d_rm_movedCell_34 pk_rm_movedCell_231 (t_38 hs1) (rm_moved_s hs1 hK1 hO ((hLO.2 _ g3).2 _ (by rw [(hf.2.2 _ g3).2]; exact g4)) hm) ?_
  refine Ex_ireturn d_rm_movedCell_37 rfl ?_
  exact ⟨rfl, f1⟩
theorem mvX_ok {K : SK} (hO : KO K) {P : SP} (hQ : PO K.1 P) {p : Nat} (hp : p < pNp P) (hf : fullP P p) {m i j : Nat} (hi : i < tRp P p m) (hj : j < tCp P p m) : okT K.1 (mvX K P p m i j) := by
  obtain ⟨g3, g4⟩ := fr_lt hi hj
  have hLO : LO K.1 (lp P p) := lv0_ok hQ (hQ.2.2.2.1 p hp)
  exact mvT_ok hO ((hLO.2 _ g3).2 _ (by rw [(hf.2.2 _ g3).2]; exact g4))
theorem rm_isMoved_L {S : mj_S} {h : mj_H} (hs : HT h) {K : SK} (hK : KM K h) (hO : KO K) {P : SP} (hP : PM P h) (hQ : PO K.1 P) {p : Nat} (hp : p < pNp P) (hf : fullP P p) {q : Nat} (hq : q < pNp P) (hg : fullP P q) {m : Nat} (hm : m < 8) (hr : tRp P p m = ln P q) (hc : tCp P p m = wd P q) : ∀ e k : Nat, k + e = tRp P p m * tCp P p m → (∀ u, u < k → mvX K P p m (u / tCp P p m) (u % tCp P p m) = gX (lp P q) (u / tCp P p m) (u % tCp P p m)) → ∀ h1 : mj_H, Fr Wf8 h h1 → Ex S rm_isMoved 75 [some (.ref 38), some (.int (nI (p))), some (.int (nI (m))), some (.int (nI (q))), some (.int (nI (tRp P p m))), some (.int (nI (tCp P p m))), some (.int (1)), some (.int (nI (k)))] [] h1 (PuF (.int (bI (tfB (mvP K P p m q)))) Wf8 h) := by
  have hokl := hQ.2.2.2.1 p hp
  have hl60 : ln P p ≤ 60 := hokl.1
  have hLO : LO K.1 (lp P p) := lv0_ok hQ hokl
  have hmd : pMd P ≤ 6000 := hQ.1
  have hnp := hQ.2.2.1
  have hk40 := hO.1
  have hwe : gL (lp P p) 0 = wd P p := rfl
  have hle : (pPat P p).length = ln P p := rfl
  have hq60 : ln P q ≤ 60 := (hQ.2.2.2.1 q hq).1
  have hwq : gL (lp P q) 0 = wd P q := rfl
  have hlq : (pPat P q).length = ln P q := rfl
  have hLQ : LO K.1 (lp P q) := lv0_ok hQ (hQ.2.2.2.1 q hq)
  have hw60 : wd P p ≤ 60 := (hLO.2 0 hf.1).1.1
  have hv60 : wd P q ≤ 60 := (hLQ.2 0 hg.1).1.1
  have ht60 : tRp P p m ≤ 60 ∧ tCp P p m ≤ 60 := by unfold tRp tCp tR tC; split <;> omega
  have ht36 : tRp P p m * tCp P p m ≤ 60 * 60 := mul_le ht60.1 ht60.2
  intro e
  induction e with
  | zero =>
    intro k hke hev h1 f1
    obtain rfl : tRp P p m * tCp P p m = k := by omega
    refine Ex_iload d_rm_isMoved_75 rfl ?_
    refine Ex_if_eqN (1) 137 d_rm_isMoved_77 rfl rfl (by omega) (fun hc77 => ?_) (fun hc77 => ?_)
    · exact absurd hc77 (by decide)
    · refine Ex_iload d_rm_isMoved_80 rfl ?_
      refine Ex_iload d_rm_isMoved_82 rfl ?_
      refine Ex_iload d_rm_isMoved_84 rfl ?_
      refine Ex_imulN (tRp P p m) (tCp P p m) d_rm_isMoved_86 rfl rfl ?_
      refine Ex_icmp_geN (tRp P p m * tCp P p m) ((tRp P p m) * (tCp P p m)) 137 d_rm_isMoved_87 rfl rfl rfl (by omega) (by omega) (fun hc87 => ?_) (fun hc87 => ?_)
      · refine Ex_iload d_rm_isMoved_137 rfl ?_
        refine Ex_zreturn d_rm_isMoved_139 rfl (by decide) ?_
        exact ⟨by rw [tfB_t (p := mvP K P p m q) ⟨hr, hc, hev⟩]; rfl, f1⟩
      · exfalso; omega
  | succ e ih =>
    intro k hke hev h1 f1
    have hs1 : HT h1 := f1.ht hs Wf8_st
    have hP1 := PM_8 hs f1 hP
    have hK1 := KM_8 hs f1 hK
    obtain ⟨g1, g2, g3⟩ := dm_lt (show k < tRp P p m * tCp P p m by omega)
    have hokx := mvX_ok hO hQ hp hf g1 g2
    have hoky : okT K.1 (gX (lp P q) (k / tCp P p m) (k % tCp P p m)) := (hLQ.2 _ (by show _ < ln P q; rw [← hr]; exact g1)).2 _ (by rw [(hg.2.2 _ (by rw [← hr]; exact g1)).2, ← hc]; exact g2)
    refine Ex_iload d_rm_isMoved_75 rfl ?_
    refine Ex_if_eqN (1) 137 d_rm_isMoved_77 rfl rfl (by omega) (fun hc77 => ?_) (fun hc77 => ?_)
    · exact absurd hc77 (by decide)
    · refine Ex_iload d_rm_isMoved_80 rfl ?_
      refine Ex_iload d_rm_isMoved_82 rfl ?_
      refine Ex_iload d_rm_isMoved_84 rfl ?_
      refine Ex_imulN (tRp P p m) (tCp P p m) d_rm_isMoved_86 rfl rfl ?_
      refine Ex_icmp_geN (k) ((tRp P p m) * (tCp P p m)) 137 d_rm_isMoved_87 rfl rfl rfl (by omega) (by omega) (fun hc87 => ?_) (fun hc87 => ?_)
      · exfalso; omega
      · refine Ex_aload_n d_rm_isMoved_90 rfl ?_
        refine Ex_iload_n d_rm_isMoved_91 rfl ?_
        refine Ex_iload_n d_rm_isMoved_92 rfl ?_
        refine Ex_iload d_rm_isMoved_93 rfl ?_
        refine Ex_iload d_rm_isMoved_95 rfl ?_
        refine Ex_idivN (k) (tCp P p m) d_rm_isMoved_97 rfl rfl (by omega) (by omega) ?_
        refine Ex_iload d_rm_isMoved_98 rfl ?_
        refine Ex_iload d_rm_isMoved_100 rfl ?_
        refine Ex_iremN (k) (tCp P p m) d_rm_isMoved_102 rfl rfl (by omega) (by omega) ?_
        refine Ex_cV4 d_rm_isMoved_103 pk_rm_isMoved_272 (t_38 hs1) (rm_movedCell_s hs1 hK1 hO hP1 hQ hp hf hm g1 g2) ?_
        rintro rv h2 ⟨rfl, f2⟩
        have hs2 : HT h2 := f2.ht hs1 Wf8_st
        have hP2 := PM_8 hs1 f2 hP1
        show Ex S rm_isMoved 106 [some (.ref 38), some (.int (nI (p))), some (.int (nI (m))), some (.int (nI (q))), some (.int (nI (tRp P p m))), some (.int (nI (tCp P p m))), some (.int (1)), some (.int (nI (k)))] [.int (eM (mvX K P p m (k / tCp P p m) (k % tCp P p m)))] h2 _
        refine Ex_aload_n d_rm_isMoved_106 rfl ?_
        refine Ex_iload_n d_rm_isMoved_107 rfl ?_
        refine Ex_iload d_rm_isMoved_108 rfl ?_
        refine Ex_iload d_rm_isMoved_110 rfl ?_
        refine Ex_idivN (k) (tCp P p m) d_rm_isMoved_112 rfl rfl (by omega) (by omega) ?_
        refine Ex_iload d_rm_isMoved_113 rfl ?_
        refine Ex_iload d_rm_isMoved_115 rfl ?_
        refine Ex_iremN (k) (tCp P p m) d_rm_isMoved_117 rfl rfl (by omega) (by omega) ?_
        refine Ex_pV3 (v := .int (eM (gX (lp P q) (k / tCp P p m) (k % tCp P p m)))) d_rm_isMoved_118 pk_rm_isMoved_212 (t_38 hs2) (by rw [nIJ (k / tCp P p m), nIJ (k % tCp P p m)]; exact rm_cellAt_s hs2 hP2 hQ hq (full_at hQ hq hg (by rw [← hr]; exact g1) (by rw [← hc]; exact g2))) ?_
        refine Ex_icmp_ne 128 d_rm_isMoved_121 rfl (fun hc121 => ?_) (fun hc121 => ?_)
        · refine Ex_iconst d_rm_isMoved_128 ic_0 ?_
          refine Ex_istore [some (.ref 38), some (.int (nI (p))), some (.int (nI (m))), some (.int (nI (q))), some (.int (nI (tRp P p m))), some (.int (nI (tCp P p m))), some (.int (0)), some (.int (nI (k)))] d_rm_isMoved_129 (Nat.le_of_ble_eq_true rfl) rfl ?_
          refine Ex_iincN (k) 1 [some (.ref 38), some (.int (nI (p))), some (.int (nI (m))), some (.int (nI (q))), some (.int (nI (tRp P p m))), some (.int (nI (tCp P p m))), some (.int (0)), some (.int (nI (k + 1)))] d_rm_isMoved_131 rfl rfl rfl rfl ?_
          refine Ex_goto 75 d_rm_isMoved_134 rfl ?_
          refine Ex_iload d_rm_isMoved_75 rfl ?_
          refine Ex_if_eqN (0) 137 d_rm_isMoved_77 rfl rfl (by omega) (fun hc77 => ?_) (fun hc77 => ?_)
          · refine Ex_iload d_rm_isMoved_137 rfl ?_
            refine Ex_zreturn d_rm_isMoved_139 rfl (by decide) ?_
            exact ⟨by rw [tfB_f (p := mvP K P p m q) (fun z => hc121 ((eM_inj (okT_mono hokx hO.1) (okT_mono hoky hO.1)).mpr (z.2.2 k (by omega))))]; rfl, f1.tr f2⟩
          · exact absurd hc77 (by decide)
        · refine Ex_iconst d_rm_isMoved_124 ic_1 ?_
          refine Ex_goto 129 d_rm_isMoved_125 rfl ?_
          refine Ex_istore [some (.ref 38), some (.int (nI (p))), some (.int (nI (m))), some (.int (nI (q))), some (.int (nI (tRp P p m))), some (.int (nI (tCp P p m))), some (.int (1)), some (.int (nI (k)))] d_rm_isMoved_129 (Nat.le_of_ble_eq_true rfl) rfl ?_
          refine Ex_iincN (k) 1 [some (.ref 38), some (.int (nI (p))), some (.int (nI (m))), some (.int (nI (q))), some (.int (nI (tRp P p m))), some (.int (nI (tCp P p m))), some (.int (1)), some (.int (nI (k + 1)))] d_rm_isMoved_131 rfl rfl rfl rfl ?_
          refine Ex_goto 75 d_rm_isMoved_134 rfl ?_
          refine ih (k + 1) (by omega) (fun u hu => ?_) h2 (f1.tr f2)
          by_cases huk : u = k
          · rw [huk]; exact (eM_inj (okT_mono hokx hO.1) (okT_mono hoky hO.1)).mp hc121
          · exact hev u (by omega)
theorem rm_isMoved_s {S : mj_S} {h : mj_H} (hs : HT h) {K : SK} (hK : KM K h) (hO : KO K) {P : SP} (hP : PM P h) (hQ : PO K.1 P) {p : Nat} (hp : p < pNp P) (hf : fullP P p) {q : Nat} (hq : q < pNp P) (hg : fullP P q) {m : Nat} (hm : m < 8) : Cl S rm_isMoved [.ref 38, .int (nI p), .int (nI m), .int (nI q)] h (PuF (.int (bI (tfB (mvP K P p m q)))) Wf8 h) := by
  show Ex S rm_isMoved 0 [some (.ref 38), some (.int (nI (p))), some (.int (nI (m))), some (.int (nI (q))), none, none, none, none] [] h _
  have hokl := hQ.2.2.2.1 p hp
  have hl60 : ln P p ≤ 60 := hokl.1
  have hLO : LO K.1 (lp P p) := lv0_ok hQ hokl
  have hmd : pMd P ≤ 6000 := hQ.1
  have hnp := hQ.2.2.1
  have hk40 := hO.1
  have hwe : gL (lp P p) 0 = wd P p := rfl
  have hle : (pPat P p).length = ln P p := rfl
  have hq60 : ln P q ≤ 60 := (hQ.2.2.2.1 q hq).1
  have hwq : gL (lp P q) 0 = wd P q := rfl
  have hlq : (pPat P q).length = ln P q := rfl
  have hLQ : LO K.1 (lp P q) := lv0_ok hQ (hQ.2.2.2.1 q hq)
  have hw60 : wd P p ≤ 60 := (hLO.2 0 hf.1).1.1
  have hv60 : wd P q ≤ 60 := (hLQ.2 0 hg.1).1.1
  have ht60 : tRp P p m ≤ 60 ∧ tCp P p m ≤ 60 := by unfold tRp tCp tR tC; split <;> omega
  have ht36 : tRp P p m * tCp P p m ≤ 60 * 60 := mul_le ht60.1 ht60.2
  rcases (show m % 2 = 0 ∨ m % 2 = 1 by omega) with h2 | h2
  · have hR : tRp P p m = ln P p := by unfold tRp tR; rw [if_pos h2]
    have hC : tCp P p m = wd P p := by unfold tCp tC; rw [if_pos h2]
    refine Ex_iload_n d_rm_isMoved_0 rfl ?_
    refine Ex_iconst d_rm_isMoved_1 ic_1 ?_
    refine Ex_iand d_rm_isMoved_2 ?_
    rw [show (((nI (m)) &&& (1 : Int32)) : Int32) = (nI (m % 2)) from (nI_1m m)]
    refine Ex_if_neN (m % 2) 15 d_rm_isMoved_3 rfl rfl (by omega) (fun hc3 => ?_) (fun hc3 => ?_)
    · exfalso; omega
    · refine Ex_aload_n d_rm_isMoved_6 rfl ?_
      refine Ex_getR (v := .ref 48) d_rm_isMoved_7 pf_rm_40 rfl (t_38 hs) (r_38_11 hs) ?_
      refine Ex_iload_n d_rm_isMoved_10 rfl ?_
      refine Ex_ialoadN (a := p) (y := (nI (ln P p))) d_rm_isMoved_11 (t_48 hs) rfl (by omega) (by decide) (hP.2.1.2 p hp).1 ?_
      refine Ex_goto 20 d_rm_isMoved_12 rfl ?_
      refine Ex_istore [some (.ref 38), some (.int (nI (p))), some (.int (nI (m))), some (.int (nI (q))), some (.int (nI (ln P p))), none, none, none] d_rm_isMoved_20 (Nat.le_of_ble_eq_true rfl) rfl ?_
      refine Ex_iload_n d_rm_isMoved_22 rfl ?_
      refine Ex_iconst d_rm_isMoved_23 ic_1 ?_
      refine Ex_iand d_rm_isMoved_24 ?_
      rw [show (((nI (m)) &&& (1 : Int32)) : Int32) = (nI (m % 2)) from (nI_1m m)]
      refine Ex_if_neN (m % 2) 36 d_rm_isMoved_25 rfl rfl (by omega) (fun hc25 => ?_) (fun hc25 => ?_)
      · exfalso; omega
      · refine Ex_aload_n d_rm_isMoved_28 rfl ?_
        refine Ex_iload_n d_rm_isMoved_29 rfl ?_
        refine Ex_pV1 (v := .int (nI (wd P p))) d_rm_isMoved_30 pk_rm_isMoved_269 (t_38 hs) (rm_wide_s hs hK hO hP hQ hp hf.1) ?_
        refine Ex_goto 42 d_rm_isMoved_33 rfl ?_
        refine Ex_istore [some (.ref 38), some (.int (nI (p))), some (.int (nI (m))), some (.int (nI (q))), some (.int (nI (ln P p))), some (.int (nI (wd P p))), none, none] d_rm_isMoved_42 (Nat.le_of_ble_eq_true rfl) rfl ?_
        refine Ex_ls (ls' := [some (.ref 38), some (.int (nI (p))), some (.int (nI (m))), some (.int (nI (q))), some (.int (nI (tRp P p m))), some (.int (nI (tCp P p m))), none, none]) (by rw [hR, hC]) ?_
        refine Ex_iload d_rm_isMoved_44 rfl ?_
        refine Ex_aload_n d_rm_isMoved_46 rfl ?_
        refine Ex_getR (v := .ref 48) d_rm_isMoved_47 pf_rm_40 rfl (t_38 hs) (r_38_11 hs) ?_
        refine Ex_iload_n d_rm_isMoved_50 rfl ?_
        refine Ex_ialoadN (a := q) (y := (nI (ln P q))) d_rm_isMoved_51 (t_48 hs) rfl (by omega) (by decide) (hP.2.1.2 q hq).1 ?_
        refine Ex_icmp_neN (tRp P p m) (ln P q) 69 d_rm_isMoved_52 rfl rfl rfl (by omega) (by omega) (fun hc52 => ?_) (fun hc52 => ?_)
        · refine Ex_iconst d_rm_isMoved_69 ic_0 ?_
          refine Ex_istore [some (.ref 38), some (.int (nI (p))), some (.int (nI (m))), some (.int (nI (q))), some (.int (nI (tRp P p m))), some (.int (nI (tCp P p m))), some (.int (0)), none] d_rm_isMoved_70 (Nat.le_of_ble_eq_true rfl) rfl ?_
          refine Ex_iconst d_rm_isMoved_72 ic_0 ?_
          refine Ex_istore [some (.ref 38), some (.int (nI (p))), some (.int (nI (m))), some (.int (nI (q))), some (.int (nI (tRp P p m))), some (.int (nI (tCp P p m))), some (.int (0)), some (.int (0))] d_rm_isMoved_73 (Nat.le_of_ble_eq_true rfl) rfl ?_
          refine Ex_iload d_rm_isMoved_75 rfl ?_
          refine Ex_if_eqN (0) 137 d_rm_isMoved_77 rfl rfl (by omega) (fun hc77 => ?_) (fun hc77 => ?_)
          · refine Ex_iload d_rm_isMoved_137 rfl ?_
            refine Ex_zreturn d_rm_isMoved_139 rfl (by decide) ?_
            exact ⟨by rw [tfB_f (p := mvP K P p m q) (fun z => by have := z.1; have := z.2.1; omega)]; rfl, Fr.rf⟩
          · exact absurd hc77 (by decide)
        · refine Ex_iload d_rm_isMoved_55 rfl ?_
          refine Ex_aload_n d_rm_isMoved_57 rfl ?_
          refine Ex_iload_n d_rm_isMoved_58 rfl ?_
          refine Ex_pV1 (v := .int (nI (wd P q))) d_rm_isMoved_59 pk_rm_isMoved_269 (t_38 hs) (rm_wide_s hs hK hO hP hQ hq hg.1) ?_
          refine Ex_icmp_neN (tCp P p m) (wd P q) 69 d_rm_isMoved_62 rfl rfl rfl (by omega) (by omega) (fun hc62 => ?_) (fun hc62 => ?_)
          · refine Ex_iconst d_rm_isMoved_69 ic_0 ?_
            refine Ex_istore [some (.ref 38), some (.int (nI (p))), some (.int (nI (m))), some (.int (nI (q))), some (.int (nI (tRp P p m))), some (.int (nI (tCp P p m))), some (.int (0)), none] d_rm_isMoved_70 (Nat.le_of_ble_eq_true rfl) rfl ?_
            refine Ex_iconst d_rm_isMoved_72 ic_0 ?_
            refine Ex_istore [some (.ref 38), some (.int (nI (p))), some (.int (nI (m))), some (.int (nI (q))), some (.int (nI (tRp P p m))), some (.int (nI (tCp P p m))), some (.int (0)), some (.int (0))] d_rm_isMoved_73 (Nat.le_of_ble_eq_true rfl) rfl ?_
            refine Ex_iload d_rm_isMoved_75 rfl ?_
            refine Ex_if_eqN (0) 137 d_rm_isMoved_77 rfl rfl (by omega) (fun hc77 => ?_) (fun hc77 => ?_)
            · refine Ex_iload d_rm_isMoved_137 rfl ?_
              refine Ex_zreturn d_rm_isMoved_139 rfl (by decide) ?_
              exact ⟨by rw [tfB_f (p := mvP K P p m q) (fun z => by have := z.1; have := z.2.1; omega)]; rfl, Fr.rf⟩
            · exact absurd hc77 (by decide)
          · refine Ex_iconst d_rm_isMoved_65 ic_1 ?_
            refine Ex_goto 70 d_rm_isMoved_66 rfl ?_
            refine Ex_istore [some (.ref 38), some (.int (nI (p))), some (.int (nI (m))), some (.int (nI (q))), some (.int (nI (tRp P p m))), some (.int (nI (tCp P p m))), some (.int (1)), none] d_rm_isMoved_70 (Nat.le_of_ble_eq_true rfl) rfl ?_
            refine Ex_iconst d_rm_isMoved_72 ic_0 ?_
            refine Ex_istore [some (.ref 38), some (.int (nI (p))), some (.int (nI (m))), some (.int (nI (q))), some (.int (nI (tRp P p m))), some (.int (nI (tCp P p m))), some (.int (1)), some (.int (0))] d_rm_isMoved_73 (Nat.le_of_ble_eq_true rfl) rfl ?_
            exact rm_isMoved_L hs hK hO hP hQ hp hf hq hg hm hc52 hc62 (tRp P p m * tCp P p m) 0 (by omega) (fun u hu => absurd hu (by omega)) h Fr.rf
  · have hR : tRp P p m = wd P p := by unfold tRp tR; rw [if_neg (by omega)]
    have hC : tCp P p m = ln P p := by unfold tCp tC; rw [if_neg (by omega)]
    refine Ex_iload_n d_rm_isMoved_0 rfl ?_
    refine Ex_iconst d_rm_isMoved_1 ic_1 ?_
    refine Ex_iand d_rm_isMoved_2 ?_
    rw [show (((nI (m)) &&& (1 : Int32)) : Int32) = (nI (m % 2)) from (nI_1m m)]
    refine Ex_if_neN (m % 2) 15 d_rm_isMoved_3 rfl rfl (by omega) (fun hc3 => ?_) (fun hc3 => ?_)
    · refine Ex_aload_n d_rm_isMoved_15 rfl ?_
      refine Ex_iload_n d_rm_isMoved_16 rfl ?_
      refine Ex_pV1 (v := .int (nI (wd P p))) d_rm_isMoved_17 pk_rm_isMoved_269 (t_38 hs) (rm_wide_s hs hK hO hP hQ hp hf.1) ?_
      refine Ex_istore [some (.ref 38), some (.int (nI (p))), some (.int (nI (m))), some (.int (nI (q))), some (.int (nI (wd P p))), none, none, none] d_rm_isMoved_20 (Nat.le_of_ble_eq_true rfl) rfl ?_
      refine Ex_iload_n d_rm_isMoved_22 rfl ?_
      refine Ex_iconst d_rm_isMoved_23 ic_1 ?_
      refine Ex_iand d_rm_isMoved_24 ?_
      rw [show (((nI (m)) &&& (1 : Int32)) : Int32) = (nI (m % 2)) from (nI_1m m)]
      refine Ex_if_neN (m % 2) 36 d_rm_isMoved_25 rfl rfl (by omega) (fun hc25 => ?_) (fun hc25 => ?_)
      · refine Ex_aload_n d_rm_isMoved_36 rfl ?_
        refine Ex_getR (v := .ref 48) d_rm_isMoved_37 pf_rm_40 rfl (t_38 hs) (r_38_11 hs) ?_
        refine Ex_iload_n d_rm_isMoved_40 rfl ?_
        refine Ex_ialoadN (a := p) (y := (nI (ln P p))) d_rm_isMoved_41 (t_48 hs) rfl (by omega) (by decide) (hP.2.1.2 p hp).1 ?_
        refine Ex_istore [some (.ref 38), some (.int (nI (p))), some (.int (nI (m))), some (.int (nI (q))), some (.int (nI (wd P p))), some (.int (nI (ln P p))), none, none] d_rm_isMoved_42 (Nat.le_of_ble_eq_true rfl) rfl ?_
        refine Ex_ls (ls' := [some (.ref 38), some (.int (nI (p))), some (.int (nI (m))), some (.int (nI (q))), some (.int (nI (tRp P p m))), some (.int (nI (tCp P p m))), none, none]) (by rw [hR, hC]) ?_
        refine Ex_iload d_rm_isMoved_44 rfl ?_
        refine Ex_aload_n d_rm_isMoved_46 rfl ?_
        refine Ex_getR (v := .ref 48) d_rm_isMoved_47 pf_rm_40 rfl (t_38 hs) (r_38_11 hs) ?_
        refine Ex_iload_n d_rm_isMoved_50 rfl ?_
        refine Ex_ialoadN (a := q) (y := (nI (ln P q))) d_rm_isMoved_51 (t_48 hs) rfl (by omega) (by decide) (hP.2.1.2 q hq).1 ?_
        refine Ex_icmp_neN (tRp P p m) (ln P q) 69 d_rm_isMoved_52 rfl rfl rfl (by omega) (by omega) (fun hc52 => ?_) (fun hc52 => ?_)
        · refine Ex_iconst d_rm_isMoved_69 ic_0 ?_
          refine Ex_istore [some (.ref 38), some (.int (nI (p))), some (.int (nI (m))), some (.int (nI (q))), some (.int (nI (tRp P p m))), some (.int (nI (tCp P p m))), some (.int (0)), none] d_rm_isMoved_70 (Nat.le_of_ble_eq_true rfl) rfl ?_
          refine Ex_iconst d_rm_isMoved_72 ic_0 ?_
          refine Ex_istore [some (.ref 38), some (.int (nI (p))), some (.int (nI (m))), some (.int (nI (q))), some (.int (nI (tRp P p m))), some (.int (nI (tCp P p m))), some (.int (0)), some (.int (0))] d_rm_isMoved_73 (Nat.le_of_ble_eq_true rfl) rfl ?_
          refine Ex_iload d_rm_isMoved_75 rfl ?_
          refine Ex_if_eqN (0) 137 d_rm_isMoved_77 rfl rfl (by omega) (fun hc77 => ?_) (fun hc77 => ?_)
          · refine Ex_iload d_rm_isMoved_137 rfl ?_
            refine Ex_zreturn d_rm_isMoved_139 rfl (by decide) ?_
            exact ⟨by rw [tfB_f (p := mvP K P p m q) (fun z => by have := z.1; have := z.2.1; omega)]; rfl, Fr.rf⟩
          · exact absurd hc77 (by decide)
        · refine Ex_iload d_rm_isMoved_55 rfl ?_
          refine Ex_aload_n d_rm_isMoved_57 rfl ?_
          refine Ex_iload_n d_rm_isMoved_58 rfl ?_
          refine Ex_pV1 (v := .int (nI (wd P q))) d_rm_isMoved_59 pk_rm_isMoved_269 (t_38 hs) (rm_wide_s hs hK hO hP hQ hq hg.1) ?_
          refine Ex_icmp_neN (tCp P p m) (wd P q) 69 d_rm_isMoved_62 rfl rfl rfl (by omega) (by omega) (fun hc62 => ?_) (fun hc62 => ?_)
          · refine Ex_iconst d_rm_isMoved_69 ic_0 ?_
            refine Ex_istore [some (.ref 38), some (.int (nI (p))), some (.int (nI (m))), some (.int (nI (q))), some (.int (nI (tRp P p m))), some (.int (nI (tCp P p m))), some (.int (0)), none] d_rm_isMoved_70 (Nat.le_of_ble_eq_true rfl) rfl ?_
            refine Ex_iconst d_rm_isMoved_72 ic_0 ?_
            refine Ex_istore [some (.ref 38), some (.int (nI (p))), some (.int (nI (m))), some (.int (nI (q))), some (.int (nI (tRp P p m))), some (.int (nI (tCp P p m))), some (.int (0)), some (.int (0))] d_rm_isMoved_73 (Nat.le_of_ble_eq_true rfl) rfl ?_
            refine Ex_iload d_rm_isMoved_75 rfl ?_
            refine Ex_if_eqN (0) 137 d_rm_isMoved_77 rfl rfl (by omega) (fun hc77 => ?_) (fun hc77 => ?_)
            · refine Ex_iload d_rm_isMoved_137 rfl ?_
              refine Ex_zreturn d_rm_isMoved_139 rfl (by decide) ?_
              exact ⟨by rw [tfB_f (p := mvP K P p m q) (fun z => by have := z.1; have := z.2.1; omega)]; rfl, Fr.rf⟩
            · exact absurd hc77 (by decide)
          · refine Ex_iconst d_rm_isMoved_65 ic_1 ?_
            refine Ex_goto 70 d_rm_isMoved_66 rfl ?_
            refine Ex_istore [some (.ref 38), some (.int (nI (p))), some (.int (nI (m))), some (.int (nI (q))), some (.int (nI (tRp P p m))), some (.int (nI (tCp P p m))), some (.int (1)), none] d_rm_isMoved_70 (Nat.le_of_ble_eq_true rfl) rfl ?_
            refine Ex_iconst d_rm_isMoved_72 ic_0 ?_
            refine Ex_istore [some (.ref 38), some (.int (nI (p))), some (.int (nI (m))), some (.int (nI (q))), some (.int (nI (tRp P p m))), some (.int (nI (tCp P p m))), some (.int (1)), some (.int (0))] d_rm_isMoved_73 (Nat.le_of_ble_eq_true rfl) rfl ?_
            exact rm_isMoved_L hs hK hO hP hQ hp hf hq hg hm hc52 hc62 (tRp P p m * tCp P p m) 0 (by omega) (fun u hu => absurd hu (by omega)) h Fr.rf
      · exfalso; omega
    · exfalso; omega
theorem rm_kept_L {S : mj_S} {Q : Option Value → mj_H → Prop} {h : mj_H} (hs : HT h) {K : SK} (hK : KM K h) (hO : KO K) {P : SP} (hP : PM P h) (hQ : PO K.1 P) {p : Nat} (hp : p < pNp P) (hf : fullP P p)
    (kx : ∀ h1 : mj_H, (Fr Wf8 h h1) → Ex S rm_kept 54 [some (.ref 38), some (.int (nI (p))), some (.int (nI (kbits (fun m => tfB (mvP K P p m p)) 8))), some (.int (nI (8)))] [] h1 Q) : ∀ d m : Nat, m + d = 8 → ∀ h1 : mj_H, (Fr Wf8 h h1) → Ex S rm_kept 14 [some (.ref 38), some (.int (nI (p))), some (.int (nI (kbits (fun m => tfB (mvP K P p m p)) m))), some (.int (nI (m)))] [] h1 Q := by
  intro d
  induction d with
  | zero =>
    intro m hkk h1 hI
    obtain rfl : 8 = m := by omega
    refine Ex_iload_n d_rm_kept_14 rfl ?_
    refine Ex_bipush d_rm_kept_15 bp_8 ?_
    refine Ex_icmp_geN (8) (8) 54 d_rm_kept_17 rfl rfl rfl (by omega) (by omega) (fun hc17 => ?_) (fun hc17 => ?_)
    · exact kx h1 hI
    · exfalso; omega
  | succ d ih =>
    intro m hkk h1 hI
    have hs1 : HT h1 := hI.ht hs Wf8_st
    have hP1 := PM_8 hs hI hP
    have hK1 := KM_8 hs hI hK
    have hkb := kbits_lt (fun m => tfB (mvP K P p m p)) m
    have hpw : 2 ^ m ≤ 2 ^ 7 := Nat.pow_le_pow_right (by omega) (by omega)
    refine Ex_iload_n d_rm_kept_14 rfl ?_
    refine Ex_bipush d_rm_kept_15 bp_8 ?_
    refine Ex_icmp_geN (m) (8) 54 d_rm_kept_17 rfl rfl rfl (by omega) (by omega) (fun hc17 => ?_) (fun hc17 => ?_)
    · exfalso; omega
    · refine Ex_aload_n d_rm_kept_20 rfl ?_
      refine Ex_iload_n d_rm_kept_21 rfl ?_
      refine Ex_pV1 (v := .int (bI (tfB (fullP P p)))) d_rm_kept_22 pk_rm_kept_275 (t_38 hs1) (rm_isFull_s hs1 hK1 hO hP1 hQ hp) ?_
      refine Ex_if_eqB (tfB (fullP P p)) 54 d_rm_kept_25 rfl rfl (fun hc25 => ?_) (fun hc25 => ?_)
      · exact absurd hc25 (by rw [tfB_t hf]; decide)
      · refine Ex_iload_n d_rm_kept_28 rfl ?_
        refine Ex_aload_n d_rm_kept_29 rfl ?_
        refine Ex_iload_n d_rm_kept_30 rfl ?_
        refine Ex_iload_n d_rm_kept_31 rfl ?_
        refine Ex_iload_n d_rm_kept_32 rfl ?_
        refine Ex_cV3 d_rm_kept_33 pk_rm_kept_278 (t_38 hs1) (rm_isMoved_s hs1 hK1 hO hP1 hQ hp hf hp hf (m := m) (by omega)) ?_
        rintro rv h2 ⟨rfl, f2⟩
        show Ex S rm_kept 36 [some (.ref 38), some (.int (nI (p))), some (.int (nI (kbits (fun m => tfB (mvP K P p m p)) m))), some (.int (nI (m)))] [.int (bI (tfB (mvP K P p m p))), .int (nI (kbits (fun m => tfB (mvP K P p m p)) m))] h2 _
        refine Ex_if_eqB (tfB (mvP K P p m p)) 45 d_rm_kept_36 rfl rfl (fun hc36 => ?_) (fun hc36 => ?_)
        · refine Ex_iconst d_rm_kept_45 ic_0 ?_
          refine Ex_ior d_rm_kept_46 ?_
          rw [show (((nI (kbits (fun m => tfB (mvP K P p m p)) m)) ||| (0 : Int32)) : Int32) = (nI (kbits (fun m => tfB (mvP K P p m p)) m)) from (kb_0 _)]
          refine Ex_istore_n [some (.ref 38), some (.int (nI (p))), some (.int (nI (kbits (fun m => tfB (mvP K P p m p)) m))), some (.int (nI (m)))] d_rm_kept_47 (Nat.le_of_ble_eq_true rfl) rfl ?_
          refine Ex_iincN (m) 1 [some (.ref 38), some (.int (nI (p))), some (.int (nI (kbits (fun m => tfB (mvP K P p m p)) m))), some (.int (nI (m + 1)))] d_rm_kept_48 rfl rfl rfl rfl ?_
          refine Ex_goto 14 d_rm_kept_51 rfl ?_
          have z := ih (m + 1) (by omega)
          rw [show kbits (fun m => tfB (mvP K P p m p)) (m + 1) = kbits (fun m => tfB (mvP K P p m p)) m + 0 by
            show _ + _ = _
            rw [if_neg (by show ¬ tfB (mvP K P p m p) = true; rw [hc36]; decide)]] at z
          rw [Nat.add_zero] at z
          exact z h2 (hI.tr f2)
        · refine Ex_iconst d_rm_kept_39 ic_1 ?_
          refine Ex_iload_n d_rm_kept_40 rfl ?_
          refine Ex_ishl d_rm_kept_41 ?_
          rw [show (((1 : Int32) <<< ((nI (m)) &&& 31)) : Int32) = (nI (2 ^ m)) from (show (1 : Int32) <<< (nI m &&& 31) = nI (2 ^ m) by have z := nI_shl 1 (j := m) (by omega); rw [Nat.one_mul] at z; exact z)]
          refine Ex_goto 46 d_rm_kept_42 rfl ?_
          refine Ex_ior d_rm_kept_46 ?_
          rw [show (((nI (kbits (fun m => tfB (mvP K P p m p)) m)) ||| (nI (2 ^ m))) : Int32) = (nI (kbits (fun m => tfB (mvP K P p m p)) m + 2 ^ m)) from (kb_or (kbits_lt _ m))]
          refine Ex_istore_n [some (.ref 38), some (.int (nI (p))), some (.int (nI (kbits (fun m => tfB (mvP K P p m p)) m + 2 ^ m))), some (.int (nI (m)))] d_rm_kept_47 (Nat.le_of_ble_eq_true rfl) rfl ?_
          refine Ex_iincN (m) 1 [some (.ref 38), some (.int (nI (p))), some (.int (nI (kbits (fun m => tfB (mvP K P p m p)) m + 2 ^ m))), some (.int (nI (m + 1)))] d_rm_kept_48 rfl rfl rfl rfl ?_
          refine Ex_goto 14 d_rm_kept_51 rfl ?_
          have z := ih (m + 1) (by omega)
          rw [show kbits (fun m => tfB (mvP K P p m p)) (m + 1) = kbits (fun m => tfB (mvP K P p m p)) m + 2 ^ m by
            show _ + _ = _
            rw [if_pos (by exact hc36)]] at z
          exact z h2 (hI.tr f2)
theorem rm_kept_s {S : mj_S} {h : mj_H} (hs : HT h) {K : SK} (hK : KM K h) (hO : KO K) {P : SP} (hP : PM P h) (hQ : PO K.1 P) {p : Int} (hp : -2147483648 ≤ p ∧ p < 2147483648) : Cl S rm_kept [.ref 38, .int (J (p))] h (PuF (.int (J (keptS K P p))) Wf8 h) := by
  show Ex S rm_kept 0 [some (.ref 38), some (.int (J (p))), none, none] [] h _
  refine Ex_aload_n d_rm_kept_0 rfl ?_
  refine Ex_iload_n d_rm_kept_1 rfl ?_
  refine Ex_pV1 (v := .int (bI (decide (0 ≤ p ∧ p < pNp P)))) d_rm_kept_2 pk_rm_kept_187 (t_38 hs) (rm_isPattern_s hs hP.2.1 hQ.2.2.1 hp) ?_
  refine Ex_if_neB (decide (0 ≤ p ∧ p < pNp P)) 10 d_rm_kept_5 rfl rfl (fun hc5 => ?_) (fun hc5 => ?_)
  · rw [decide_eq_true_eq] at hc5
    obtain ⟨a, rfl⟩ : ∃ a : Nat, p = (a : Int) := ⟨p.toNat, by omega⟩
    simp only [← nIJ]
    refine Ex_iconst d_rm_kept_10 ic_0 ?_
    refine Ex_istore_n [some (.ref 38), some (.int (nI (a))), some (.int (0)), none] d_rm_kept_11 (Nat.le_of_ble_eq_true rfl) rfl ?_
    refine Ex_iconst d_rm_kept_12 ic_0 ?_
    refine Ex_istore_n [some (.ref 38), some (.int (nI (a))), some (.int (0)), some (.int (0))] d_rm_kept_13 (Nat.le_of_ble_eq_true rfl) rfl ?_
    by_cases hf : fullP P a
    · refine rm_kept_L hs hK hO hP hQ (p := a) (by omega) hf (fun h1 hI => ?_) 8 0 (by omega) h Fr.rf
      refine Ex_iload_n d_rm_kept_54 rfl ?_
      refine Ex_ireturn d_rm_kept_55 rfl ?_
      refine ⟨?_, hI⟩
      unfold keptS
      rw [if_pos (by omega), Int.toNat_natCast, if_pos (tfB_t hf), nIJ]
    · refine Ex_iload_n d_rm_kept_14 rfl ?_
      refine Ex_bipush d_rm_kept_15 bp_8 ?_
      refine Ex_icmp_geN (0) (8) 54 d_rm_kept_17 rfl rfl rfl (by omega) (by omega) (fun hc17 => ?_) (fun hc17 => ?_)
      · exact absurd hc17 (by decide)
      · refine Ex_aload_n d_rm_kept_20 rfl ?_
        refine Ex_iload_n d_rm_kept_21 rfl ?_
        refine Ex_pV1 (v := .int (bI (tfB (fullP P a)))) d_rm_kept_22 pk_rm_kept_275 (t_38 hs) (rm_isFull_s hs hK hO hP hQ (by omega)) ?_
        refine Ex_if_eqB (tfB (fullP P a)) 54 d_rm_kept_25 rfl rfl (fun hc25 => ?_) (fun hc25 => ?_)
        · refine Ex_iload_n d_rm_kept_54 rfl ?_
          refine Ex_ireturn d_rm_kept_55 rfl ?_
          refine ⟨?_, Fr.rf⟩
          unfold keptS
          rw [if_pos (by omega), Int.toNat_natCast, if_neg (by rw [tfB_f hf]; decide)]
          rfl
        · exact absurd (tfB_iff.mp hc25) hf
  · rw [decide_eq_false_iff_not] at hc5
    refine Ex_iconst d_rm_kept_8 ic_m1 ?_
    refine Ex_ireturn d_rm_kept_9 rfl ?_
    exact ⟨by unfold keptS; rw [if_neg (by omega)]; rfl, Fr.rf⟩
theorem rm_congruent_L {S : mj_S} {h : mj_H} (hs : HT h) {K : SK} (hK : KM K h) (hO : KO K) {P : SP} (hP : PM P h) (hQ : PO K.1 P) {p : Nat} (hp : p < pNp P) (hf : fullP P p) {q : Nat} (hq : q < pNp P) (hg : fullP P q) : ∀ e m : Nat, m + e = 8 → ∀ h1 : mj_H, Fr Wf8 h h1 → Ex S rm_congruent 36 [some (.ref 38), some (.int (nI (p))), some (.int (nI (q))), some (.int (nI (m)))] [] h1 (PuF (.int (J ((first (cgF K P p q) e m).getD (-1)))) Wf8 h) := by
  intro e
  induction e with
  | zero =>
    intro m hme h1 f1
    obtain rfl : 8 = m := by omega
    refine Ex_iload_n d_rm_congruent_36 rfl ?_
    refine Ex_bipush d_rm_congruent_37 bp_8 ?_
    refine Ex_icmp_geN (8) (8) 60 d_rm_congruent_39 rfl rfl rfl (by omega) (by omega) (fun hc39 => ?_) (fun hc39 => ?_)
    · refine Ex_iconst d_rm_congruent_60 ic_m1 ?_
      refine Ex_ireturn d_rm_congruent_61 rfl ?_
      exact ⟨rfl, f1⟩
    · exfalso; omega
  | succ e ih =>
    intro m hme h1 f1
    have hs1 : HT h1 := f1.ht hs Wf8_st
    have hP1 := PM_8 hs f1 hP
    have hK1 := KM_8 hs f1 hK
    refine Ex_iload_n d_rm_congruent_36 rfl ?_
    refine Ex_bipush d_rm_congruent_37 bp_8 ?_
    refine Ex_icmp_geN (m) (8) 60 d_rm_congruent_39 rfl rfl rfl (by omega) (by omega) (fun hc39 => ?_) (fun hc39 => ?_)
    · exfalso; omega
    · refine Ex_aload_n d_rm_congruent_42 rfl ?_
      refine Ex_iload_n d_rm_congruent_43 rfl ?_
      refine Ex_iload_n d_rm_congruent_44 rfl ?_
      refine Ex_iload_n d_rm_congruent_45 rfl ?_
      refine Ex_cV3 d_rm_congruent_46 pk_rm_congruent_278 (t_38 hs1) (rm_isMoved_s hs1 hK1 hO hP1 hQ hp hf hq hg (m := m) (by omega)) ?_
      rintro rv h2 ⟨rfl, f2⟩
      show Ex S rm_congruent 49 [some (.ref 38), some (.int (nI (p))), some (.int (nI (q))), some (.int (nI (m)))] [.int (bI (tfB (mvP K P p m q)))] h2 _
      refine Ex_if_eqB (tfB (mvP K P p m q)) 54 d_rm_congruent_49 rfl rfl (fun hc49 => ?_) (fun hc49 => ?_)
      · refine Ex_iincN (m) 1 [some (.ref 38), some (.int (nI (p))), some (.int (nI (q))), some (.int (nI (m + 1)))] d_rm_congruent_54 rfl rfl rfl rfl ?_
        refine Ex_goto 36 d_rm_congruent_57 rfl ?_
        rw [first_n (f := cgF K P p q) (by unfold cgF; rw [if_neg (by rw [hc49]; decide)]) e]
        exact ih (m + 1) (by omega) h2 (f1.tr f2)
      · refine Ex_iload_n d_rm_congruent_52 rfl ?_
        refine Ex_ireturn d_rm_congruent_53 rfl ?_
        refine ⟨?_, f1.tr f2⟩
        rw [first_s (f := cgF K P p q) (v := (m : Int)) (by unfold cgF; rw [if_pos hc49]) e, nIJ]
        rfl
theorem rm_congruent_s {S : mj_S} {h : mj_H} (hs : HT h) {K : SK} (hK : KM K h) (hO : KO K) {P : SP} (hP : PM P h) (hQ : PO K.1 P) {p q : Int} (hp : -2147483648 ≤ p ∧ p < 2147483648) (hq : -2147483648 ≤ q ∧ q < 2147483648) : Cl S rm_congruent [.ref 38, .int (J (p)), .int (J (q))] h (PuF (.int (J (congS K P p q))) Wf8 h) := by
  show Ex S rm_congruent 0 [some (.ref 38), some (.int (J (p))), some (.int (J (q))), none] [] h _
  refine Ex_aload_n d_rm_congruent_0 rfl ?_
  refine Ex_iload_n d_rm_congruent_1 rfl ?_
  refine Ex_pV1 (v := .int (bI (decide (0 ≤ p ∧ p < pNp P)))) d_rm_congruent_2 pk_rm_congruent_187 (t_38 hs) (rm_isPattern_s hs hP.2.1 hQ.2.2.1 hp) ?_
  refine Ex_if_eqB (decide (0 ≤ p ∧ p < pNp P)) 32 d_rm_congruent_5 rfl rfl (fun hc5 => ?_) (fun hc5 => ?_)
  · rw [decide_eq_false_iff_not] at hc5
    refine Ex_iconst d_rm_congruent_32 ic_m1 ?_
    refine Ex_ireturn d_rm_congruent_33 rfl ?_
    exact ⟨by unfold congS; rw [if_neg (by (try simp only [Int.toNat_natCast]); rintro ⟨z1, z2, z3, z4, z5, z6⟩; first | omega | exact absurd (z5.symm.trans hc21) (by decide) | exact absurd (z6.symm.trans hc29) (by decide))]; rfl, Fr.rf⟩
  · rw [decide_eq_true_eq] at hc5
    refine Ex_aload_n d_rm_congruent_8 rfl ?_
    refine Ex_iload_n d_rm_congruent_9 rfl ?_
    refine Ex_pV1 (v := .int (bI (decide (0 ≤ q ∧ q < pNp P)))) d_rm_congruent_10 pk_rm_congruent_187 (t_38 hs) (rm_isPattern_s hs hP.2.1 hQ.2.2.1 hq) ?_
    refine Ex_if_eqB (decide (0 ≤ q ∧ q < pNp P)) 32 d_rm_congruent_13 rfl rfl (fun hc13 => ?_) (fun hc13 => ?_)
    · rw [decide_eq_false_iff_not] at hc13
      refine Ex_iconst d_rm_congruent_32 ic_m1 ?_
      refine Ex_ireturn d_rm_congruent_33 rfl ?_
      exact ⟨by unfold congS; rw [if_neg (by (try simp only [Int.toNat_natCast]); rintro ⟨z1, z2, z3, z4, z5, z6⟩; first | omega | exact absurd (z5.symm.trans hc21) (by decide) | exact absurd (z6.symm.trans hc29) (by decide))]; rfl, Fr.rf⟩
    · rw [decide_eq_true_eq] at hc13
      obtain ⟨a, rfl⟩ : ∃ a : Nat, p = (a : Int) := ⟨p.toNat, by omega⟩
      obtain ⟨b, rfl⟩ : ∃ b : Nat, q = (b : Int) := ⟨q.toNat, by omega⟩
      simp only [← nIJ]
      refine Ex_aload_n d_rm_congruent_16 rfl ?_
      refine Ex_iload_n d_rm_congruent_17 rfl ?_
      refine Ex_pV1 (v := .int (bI (tfB (fullP P a)))) d_rm_congruent_18 pk_rm_congruent_275 (t_38 hs) (rm_isFull_s hs hK hO hP hQ (p := a) (by omega)) ?_
      refine Ex_if_eqB (tfB (fullP P a)) 32 d_rm_congruent_21 rfl rfl (fun hc21 => ?_) (fun hc21 => ?_)
      · refine Ex_iconst d_rm_congruent_32 ic_m1 ?_
        refine Ex_ireturn d_rm_congruent_33 rfl ?_
        exact ⟨by unfold congS; rw [if_neg (by (try simp only [Int.toNat_natCast]); rintro ⟨z1, z2, z3, z4, z5, z6⟩; first | omega | exact absurd (z5.symm.trans hc21) (by decide) | exact absurd (z6.symm.trans hc29) (by decide))]; rfl, Fr.rf⟩
      · refine Ex_aload_n d_rm_congruent_24 rfl ?_
        refine Ex_iload_n d_rm_congruent_25 rfl ?_
        refine Ex_pV1 (v := .int (bI (tfB (fullP P b)))) d_rm_congruent_26 pk_rm_congruent_275 (t_38 hs) (rm_isFull_s hs hK hO hP hQ (p := b) (by omega)) ?_
        refine Ex_if_neB (tfB (fullP P b)) 34 d_rm_congruent_29 rfl rfl (fun hc29 => ?_) (fun hc29 => ?_)
        · refine Ex_iconst d_rm_congruent_34 ic_0 ?_
          refine Ex_istore_n [some (.ref 38), some (.int (nI (a))), some (.int (nI (b))), some (.int (0))] d_rm_congruent_35 (Nat.le_of_ble_eq_true rfl) rfl ?_
          have z := rm_congruent_L (S := S) hs hK hO hP hQ (p := a) (by omega) (tfB_iff.mp hc21) (q := b) (by omega) (tfB_iff.mp hc29) 8 0 (by omega) h Fr.rf
          rw [show congS K P (a : Int) (b : Int) = (first (cgF K P a b) 8 0).getD (-1) by unfold congS; rw [if_pos ⟨by omega, by omega, by omega, by omega, by rw [Int.toNat_natCast]; exact hc21, by rw [Int.toNat_natCast]; exact hc29⟩, Int.toNat_natCast, Int.toNat_natCast]]
          exact z
        · refine Ex_iconst d_rm_congruent_32 ic_m1 ?_
          refine Ex_ireturn d_rm_congruent_33 rfl ?_
          exact ⟨by unfold congS; rw [if_neg (by (try simp only [Int.toNat_natCast]); rintro ⟨z1, z2, z3, z4, z5, z6⟩; first | omega | exact absurd (z5.symm.trans hc21) (by decide) | exact absurd (z6.symm.trans hc29) (by decide))]; rfl, Fr.rf⟩
theorem rm_isFound_L {S : mj_S} {h : mj_H} (hs : HT h) {K : SK} (hK : KM K h) (hO : KO K) {P : SP} (hP : PM P h) (hQ : PO K.1 P) {p : Nat} (hp : p < pNp P) {q : Nat} (hq : q < pNp P) (hg : fullP P q) {m : Nat} (hm : m < 8) {i : Nat} {j : Int} (hi : i < 60) (hj : -30 ≤ j ∧ j ≤ 90) : ∀ e k : Nat, k + e = tRp P q m * tCp P q m → (∀ u, u < k → cAt P p ((i : Int) + ((u / tCp P q m : Nat) : Int)) (j + ((u % tCp P q m : Nat) : Int)) = some (mvX K P q m (u / tCp P q m) (u % tCp P q m))) → ∀ h1 : mj_H, Fr Wf8 h h1 → Ex S rm_isFound 52 [some (.ref 38), some (.int (nI (p))), some (.int (nI (q))), some (.int (nI (i))), some (.int (J (j))), some (.int (nI (m))), some (.int (nI (tRp P q m))), some (.int (nI (tCp P q m))), some (.int (1)), some (.int (nI (k)))] [] h1 (PuF (.int (bI (tfB (fnP K P p q (i : Int) j m)))) Wf8 h) := by
  have hokl := hQ.2.2.2.1 p hp
  have hl60 : ln P p ≤ 60 := hokl.1
  have hLO : LO K.1 (lp P p) := lv0_ok hQ hokl
  have hmd : pMd P ≤ 6000 := hQ.1
  have hnp := hQ.2.2.1
  have hk40 := hO.1
  have hwe : gL (lp P p) 0 = wd P p := rfl
  have hle : (pPat P p).length = ln P p := rfl
  have hq60 : ln P q ≤ 60 := (hQ.2.2.2.1 q hq).1
  have hwq : gL (lp P q) 0 = wd P q := rfl
  have hlq : (pPat P q).length = ln P q := rfl
  have hLQ : LO K.1 (lp P q) := lv0_ok hQ (hQ.2.2.2.1 q hq)
  have hv60 : wd P q ≤ 60 := (hLQ.2 0 hg.1).1.1
  have ht60 : tRp P q m ≤ 60 ∧ tCp P q m ≤ 60 := by unfold tRp tCp tR tC; split <;> omega
  have ht36 : tRp P q m * tCp P q m ≤ 60 * 60 := mul_le ht60.1 ht60.2
  intro e
  induction e with
  | zero =>
    intro k hke hev h1 f1
    obtain rfl : tRp P q m * tCp P q m = k := by omega
    refine Ex_iload d_rm_isFound_52 rfl ?_
    refine Ex_if_eqN (1) 145 d_rm_isFound_54 rfl rfl (by omega) (fun hc54 => ?_) (fun hc54 => ?_)
    · exact absurd hc54 (by decide)
    · refine Ex_iload d_rm_isFound_57 rfl ?_
      refine Ex_iload d_rm_isFound_59 rfl ?_
      refine Ex_iload d_rm_isFound_61 rfl ?_
      refine Ex_imulN (tRp P q m) (tCp P q m) d_rm_isFound_63 rfl rfl ?_
      refine Ex_icmp_geN (tRp P q m * tCp P q m) ((tRp P q m) * (tCp P q m)) 145 d_rm_isFound_64 rfl rfl rfl (by omega) (by omega) (fun hc64 => ?_) (fun hc64 => ?_)
      · refine Ex_iload d_rm_isFound_145 rfl ?_
        refine Ex_zreturn d_rm_isFound_147 rfl (by decide) ?_
        exact ⟨by rw [tfB_t (p := fnP K P p q (i : Int) j m) hev]; rfl, f1⟩
      · exfalso; omega
  | succ e ih =>
    intro k hke hev h1 f1
    have hs1 : HT h1 := f1.ht hs Wf8_st
    have hP1 := PM_8 hs f1 hP
    have hK1 := KM_8 hs f1 hK
    obtain ⟨g1, g2, g3⟩ := dm_lt (show k < tRp P q m * tCp P q m by omega)
    obtain ⟨kd, hkd⟩ : ∃ x, k / tCp P q m = x := ⟨_, rfl⟩
    obtain ⟨km, hkm⟩ : ∃ x, k % tCp P q m = x := ⟨_, rfl⟩
    rw [hkd] at g1
    rw [hkm] at g2
    have hokx := mvX_ok hO hQ hq hg g1 g2
    refine Ex_iload d_rm_isFound_52 rfl ?_
    refine Ex_if_eqN (1) 145 d_rm_isFound_54 rfl rfl (by omega) (fun hc54 => ?_) (fun hc54 => ?_)
    · exact absurd hc54 (by decide)
    · refine Ex_iload d_rm_isFound_57 rfl ?_
      refine Ex_iload d_rm_isFound_59 rfl ?_
      refine Ex_iload d_rm_isFound_61 rfl ?_
      refine Ex_imulN (tRp P q m) (tCp P q m) d_rm_isFound_63 rfl rfl ?_
      refine Ex_icmp_geN (k) ((tRp P q m) * (tCp P q m)) 145 d_rm_isFound_64 rfl rfl rfl (by omega) (by omega) (fun hc64 => ?_) (fun hc64 => ?_)
      · exfalso; omega
      · refine Ex_aload_n d_rm_isFound_67 rfl ?_
        refine Ex_iload_n d_rm_isFound_68 rfl ?_
        refine Ex_iload_n d_rm_isFound_69 rfl ?_
        refine Ex_iload d_rm_isFound_70 rfl ?_
        refine Ex_iload d_rm_isFound_72 rfl ?_
        refine Ex_idivN (k) (tCp P q m) d_rm_isFound_74 rfl rfl (by omega) (by omega) ?_
        rw [show ((nI (k / (tCp P q m))) : Int32) = (nI (kd)) from (by rw [hkd])]
        refine Ex_iaddN (i) (kd) d_rm_isFound_75 rfl rfl ?_
        refine Ex_i2lZ (((i + kd : Nat) : Int)) d_rm_isFound_76 (nIJ _) (by omega) ?_
        refine Ex_iload d_rm_isFound_77 rfl ?_
        refine Ex_iload d_rm_isFound_79 rfl ?_
        refine Ex_iload d_rm_isFound_81 rfl ?_
        refine Ex_iremN (k) (tCp P q m) d_rm_isFound_83 rfl rfl (by omega) (by omega) ?_
        rw [show ((nI (k % (tCp P q m))) : Int32) = (nI (km)) from (by rw [hkm])]
        refine Ex_iaddZ (j) (((km : Nat) : Int)) d_rm_isFound_84 rfl (nIJ _) ?_
        refine Ex_i2lZ (j + (((km : Nat) : Int))) d_rm_isFound_85 rfl (by omega) ?_
        refine Ex_pV3 (v := .int (bI ((cAt P p ((i : Int) + (kd : Int)) (j + (km : Int))).isSome))) d_rm_isFound_86 pk_rm_isFound_204 (t_38 hs1) (rm_has_s hs1 hP1 hQ hp (by omega) (by omega)) ?_
        refine Ex_if_eqB ((cAt P p ((i : Int) + (kd : Int)) (j + (km : Int))).isSome) 136 d_rm_isFound_89 rfl rfl (fun hc89 => ?_) (fun hc89 => ?_)
        · refine Ex_iconst d_rm_isFound_136 ic_0 ?_
          refine Ex_istore [some (.ref 38), some (.int (nI (p))), some (.int (nI (q))), some (.int (nI (i))), some (.int (J (j))), some (.int (nI (m))), some (.int (nI (tRp P q m))), some (.int (nI (tCp P q m))), some (.int (0)), some (.int (nI (k)))] d_rm_isFound_137 (Nat.le_of_ble_eq_true rfl) rfl ?_
          refine Ex_iincN (k) 1 [some (.ref 38), some (.int (nI (p))), some (.int (nI (q))), some (.int (nI (i))), some (.int (J (j))), some (.int (nI (m))), some (.int (nI (tRp P q m))), some (.int (nI (tCp P q m))), some (.int (0)), some (.int (nI (k + 1)))] d_rm_isFound_139 rfl rfl rfl rfl ?_
          refine Ex_goto 52 d_rm_isFound_142 rfl ?_
          refine Ex_iload d_rm_isFound_52 rfl ?_
          refine Ex_if_eqN (0) 145 d_rm_isFound_54 rfl rfl (by omega) (fun hc54 => ?_) (fun hc54 => ?_)
          · refine Ex_iload d_rm_isFound_145 rfl ?_
            refine Ex_zreturn d_rm_isFound_147 rfl (by decide) ?_
            refine ⟨?_, f1⟩
            rw [tfB_f (p := fnP K P p q (i : Int) j m) (fun z => ?_)]
            · rfl
            · have z := z k (by omega)
              rw [hkd, hkm] at z
              rw [z] at hc89; cases hc89
          · exact absurd hc54 (by decide)
        · obtain ⟨c1, hq1⟩ := Option.isSome_iff_exists.mp hc89
          have ok1 : okT K.1 c1 := by have z2 : okA K.1 (cAt P p ((i : Int) + (kd : Int)) (j + (km : Int))) := cAt_ok hQ hp; rw [hq1] at z2; exact z2
          refine Ex_aload_n d_rm_isFound_92 rfl ?_
          refine Ex_iload_n d_rm_isFound_93 rfl ?_
          refine Ex_iload_n d_rm_isFound_94 rfl ?_
          refine Ex_iload d_rm_isFound_95 rfl ?_
          refine Ex_iload d_rm_isFound_97 rfl ?_
          refine Ex_idivN (k) (tCp P q m) d_rm_isFound_99 rfl rfl (by omega) (by omega) ?_
          rw [show ((nI (k / (tCp P q m))) : Int32) = (nI (kd)) from (by rw [hkd])]
          refine Ex_iaddN (i) (kd) d_rm_isFound_100 rfl rfl ?_
          refine Ex_iload d_rm_isFound_101 rfl ?_
          refine Ex_iload d_rm_isFound_103 rfl ?_
          refine Ex_iload d_rm_isFound_105 rfl ?_
          refine Ex_iremN (k) (tCp P q m) d_rm_isFound_107 rfl rfl (by omega) (by omega) ?_
          rw [show ((nI (k % (tCp P q m))) : Int32) = (nI (km)) from (by rw [hkm])]
          refine Ex_iaddZ (j) (((km : Nat) : Int)) d_rm_isFound_108 rfl (nIJ _) ?_
          refine Ex_pV3 (v := .int (eM c1)) d_rm_isFound_109 pk_rm_isFound_212 (t_38 hs1) (by rw [nIJ (i + kd)]; exact rm_cellAt_s hs1 hP1 hQ hp (by rw [← hq1]; congr 1)) ?_
          refine Ex_aload_n d_rm_isFound_112 rfl ?_
          refine Ex_iload_n d_rm_isFound_113 rfl ?_
          refine Ex_iload d_rm_isFound_114 rfl ?_
          refine Ex_iload d_rm_isFound_116 rfl ?_
          refine Ex_iload d_rm_isFound_118 rfl ?_
          refine Ex_idivN (k) (tCp P q m) d_rm_isFound_120 rfl rfl (by omega) (by omega) ?_
          rw [show ((nI (k / (tCp P q m))) : Int32) = (nI (kd)) from (by rw [hkd])]
          refine Ex_iload d_rm_isFound_121 rfl ?_
          refine Ex_iload d_rm_isFound_123 rfl ?_
          refine Ex_iremN (k) (tCp P q m) d_rm_isFound_125 rfl rfl (by omega) (by omega) ?_
          rw [show ((nI (k % (tCp P q m))) : Int32) = (nI (km)) from (by rw [hkm])]
          refine Ex_cV4 d_rm_isFound_126 pk_rm_isFound_272 (t_38 hs1) (rm_movedCell_s hs1 hK1 hO hP1 hQ hq hg hm g1 g2) ?_
          rintro rv h2 ⟨rfl, f2⟩
          have hs2 : HT h2 := f2.ht hs1 Wf8_st
          show Ex S rm_isFound 129 [some (.ref 38), some (.int (nI (p))), some (.int (nI (q))), some (.int (nI (i))), some (.int (J (j))), some (.int (nI (m))), some (.int (nI (tRp P q m))), some (.int (nI (tCp P q m))), some (.int (1)), some (.int (nI (k)))] [.int (eM (mvX K P q m kd km)), .int (eM c1)] h2 _
          refine Ex_icmp_ne 136 d_rm_isFound_129 rfl (fun hc129 => ?_) (fun hc129 => ?_)
          · refine Ex_iconst d_rm_isFound_136 ic_0 ?_
            refine Ex_istore [some (.ref 38), some (.int (nI (p))), some (.int (nI (q))), some (.int (nI (i))), some (.int (J (j))), some (.int (nI (m))), some (.int (nI (tRp P q m))), some (.int (nI (tCp P q m))), some (.int (0)), some (.int (nI (k)))] d_rm_isFound_137 (Nat.le_of_ble_eq_true rfl) rfl ?_
            refine Ex_iincN (k) 1 [some (.ref 38), some (.int (nI (p))), some (.int (nI (q))), some (.int (nI (i))), some (.int (J (j))), some (.int (nI (m))), some (.int (nI (tRp P q m))), some (.int (nI (tCp P q m))), some (.int (0)), some (.int (nI (k + 1)))] d_rm_isFound_139 rfl rfl rfl rfl ?_
            refine Ex_goto 52 d_rm_isFound_142 rfl ?_
            refine Ex_iload d_rm_isFound_52 rfl ?_
            refine Ex_if_eqN (0) 145 d_rm_isFound_54 rfl rfl (by omega) (fun hc54 => ?_) (fun hc54 => ?_)
            · refine Ex_iload d_rm_isFound_145 rfl ?_
              refine Ex_zreturn d_rm_isFound_147 rfl (by decide) ?_
              refine ⟨?_, f1.tr f2⟩
              rw [tfB_f (p := fnP K P p q (i : Int) j m) (fun z => ?_)]
              · rfl
              · have z := z k (by omega)
                rw [hkd, hkm] at z
                rw [hq1] at z; cases z; exact hc129 rfl
            · exact absurd hc54 (by decide)
          · refine Ex_iconst d_rm_isFound_132 ic_1 ?_
            refine Ex_goto 137 d_rm_isFound_133 rfl ?_
            refine Ex_istore [some (.ref 38), some (.int (nI (p))), some (.int (nI (q))), some (.int (nI (i))), some (.int (J (j))), some (.int (nI (m))), some (.int (nI (tRp P q m))), some (.int (nI (tCp P q m))), some (.int (1)), some (.int (nI (k)))] d_rm_isFound_137 (Nat.le_of_ble_eq_true rfl) rfl ?_
            refine Ex_iincN (k) 1 [some (.ref 38), some (.int (nI (p))), some (.int (nI (q))), some (.int (nI (i))), some (.int (J (j))), some (.int (nI (m))), some (.int (nI (tRp P q m))), some (.int (nI (tCp P q m))), some (.int (1)), some (.int (nI (k + 1)))] d_rm_isFound_139 rfl rfl rfl rfl ?_
            refine Ex_goto 52 d_rm_isFound_142 rfl ?_
            refine ih (k + 1) (by omega) (fun u hu => ?_) h2 (f1.tr f2)
            by_cases huk : u = k
            · rw [huk, hkd, hkm, hq1, (eM_inj (okT_mono ok1 hO.1) (okT_mono hokx hO.1)).mp hc129]
            · exact hev u (by omega)
theorem rm_isFound_s {S : mj_S} {h : mj_H} (hs : HT h) {K : SK} (hK : KM K h) (hO : KO K) {P : SP} (hP : PM P h) (hQ : PO K.1 P) {p : Nat} (hp : p < pNp P) {q : Nat} (hq : q < pNp P) (hg : fullP P q) {m : Nat} (hm : m < 8) {i : Nat} {j : Int} (hi : i < 60) (hj : -30 ≤ j ∧ j ≤ 90) : Cl S rm_isFound [.ref 38, .int (nI p), .int (nI q), .int (nI i), .int (J j), .int (nI m)] h (PuF (.int (bI (tfB (fnP K P p q (i : Int) j m)))) Wf8 h) := by
  show Ex S rm_isFound 0 [some (.ref 38), some (.int (nI (p))), some (.int (nI (q))), some (.int (nI (i))), some (.int (J (j))), some (.int (nI (m))), none, none, none, none] [] h _
  have hokl := hQ.2.2.2.1 p hp
  have hl60 : ln P p ≤ 60 := hokl.1
  have hLO : LO K.1 (lp P p) := lv0_ok hQ hokl
  have hmd : pMd P ≤ 6000 := hQ.1
  have hnp := hQ.2.2.1
  have hk40 := hO.1
  have hwe : gL (lp P p) 0 = wd P p := rfl
  have hle : (pPat P p).length = ln P p := rfl
  have hq60 : ln P q ≤ 60 := (hQ.2.2.2.1 q hq).1
  have hwq : gL (lp P q) 0 = wd P q := rfl
  have hlq : (pPat P q).length = ln P q := rfl
  have hLQ : LO K.1 (lp P q) := lv0_ok hQ (hQ.2.2.2.1 q hq)
  have hv60 : wd P q ≤ 60 := (hLQ.2 0 hg.1).1.1
  have ht60 : tRp P q m ≤ 60 ∧ tCp P q m ≤ 60 := by unfold tRp tCp tR tC; split <;> omega
  have ht36 : tRp P q m * tCp P q m ≤ 60 * 60 := mul_le ht60.1 ht60.2
  rcases (show m % 2 = 0 ∨ m % 2 = 1 by omega) with h2 | h2
  · have hR : tRp P q m = ln P q := by unfold tRp tR; rw [if_pos h2]
    have hC : tCp P q m = wd P q := by unfold tCp tC; rw [if_pos h2]
    refine Ex_iload d_rm_isFound_0 rfl ?_
    refine Ex_iconst d_rm_isFound_2 ic_1 ?_
    refine Ex_iand d_rm_isFound_3 ?_
    rw [show (((nI (m)) &&& (1 : Int32)) : Int32) = (nI (m % 2)) from (nI_1m m)]
    refine Ex_if_neN (m % 2) 16 d_rm_isFound_4 rfl rfl (by omega) (fun hc4 => ?_) (fun hc4 => ?_)
    · exfalso; omega
    · refine Ex_aload_n d_rm_isFound_7 rfl ?_
      refine Ex_getR (v := .ref 48) d_rm_isFound_8 pf_rm_40 rfl (t_38 hs) (r_38_11 hs) ?_
      refine Ex_iload_n d_rm_isFound_11 rfl ?_
      refine Ex_ialoadN (a := q) (y := (nI (ln P q))) d_rm_isFound_12 (t_48 hs) rfl (by omega) (by decide) (hP.2.1.2 q hq).1 ?_
      refine Ex_goto 21 d_rm_isFound_13 rfl ?_
      refine Ex_istore [some (.ref 38), some (.int (nI (p))), some (.int (nI (q))), some (.int (nI (i))), some (.int (J (j))), some (.int (nI (m))), some (.int (nI (ln P q))), none, none, none] d_rm_isFound_21 (Nat.le_of_ble_eq_true rfl) rfl ?_
      refine Ex_iload d_rm_isFound_23 rfl ?_
      refine Ex_iconst d_rm_isFound_25 ic_1 ?_
      refine Ex_iand d_rm_isFound_26 ?_
      rw [show (((nI (m)) &&& (1 : Int32)) : Int32) = (nI (m % 2)) from (nI_1m m)]
      refine Ex_if_neN (m % 2) 38 d_rm_isFound_27 rfl rfl (by omega) (fun hc27 => ?_) (fun hc27 => ?_)
      · exfalso; omega
      · refine Ex_aload_n d_rm_isFound_30 rfl ?_
        refine Ex_iload_n d_rm_isFound_31 rfl ?_
        refine Ex_pV1 (v := .int (nI (wd P q))) d_rm_isFound_32 pk_rm_isFound_269 (t_38 hs) (rm_wide_s hs hK hO hP hQ hq hg.1) ?_
        refine Ex_goto 44 d_rm_isFound_35 rfl ?_
        refine Ex_istore [some (.ref 38), some (.int (nI (p))), some (.int (nI (q))), some (.int (nI (i))), some (.int (J (j))), some (.int (nI (m))), some (.int (nI (ln P q))), some (.int (nI (wd P q))), none, none] d_rm_isFound_44 (Nat.le_of_ble_eq_true rfl) rfl ?_
        refine Ex_ls (ls' := [some (.ref 38), some (.int (nI (p))), some (.int (nI (q))), some (.int (nI (i))), some (.int (J (j))), some (.int (nI (m))), some (.int (nI (tRp P q m))), some (.int (nI (tCp P q m))), none, none]) (by rw [hR, hC]) ?_
        refine Ex_iconst d_rm_isFound_46 ic_1 ?_
        refine Ex_istore [some (.ref 38), some (.int (nI (p))), some (.int (nI (q))), some (.int (nI (i))), some (.int (J (j))), some (.int (nI (m))), some (.int (nI (tRp P q m))), some (.int (nI (tCp P q m))), some (.int (1)), none] d_rm_isFound_47 (Nat.le_of_ble_eq_true rfl) rfl ?_
        refine Ex_iconst d_rm_isFound_49 ic_0 ?_
        refine Ex_istore [some (.ref 38), some (.int (nI (p))), some (.int (nI (q))), some (.int (nI (i))), some (.int (J (j))), some (.int (nI (m))), some (.int (nI (tRp P q m))), some (.int (nI (tCp P q m))), some (.int (1)), some (.int (0))] d_rm_isFound_50 (Nat.le_of_ble_eq_true rfl) rfl ?_
        exact rm_isFound_L hs hK hO hP hQ hp hq hg hm hi hj (tRp P q m * tCp P q m) 0 (by omega) (fun u hu => absurd hu (by omega)) h Fr.rf
  · have hR : tRp P q m = wd P q := by unfold tRp tR; rw [if_neg (by omega)]
    have hC : tCp P q m = ln P q := by unfold tCp tC; rw [if_neg (by omega)]
    refine Ex_iload d_rm_isFound_0 rfl ?_
    refine Ex_iconst d_rm_isFound_2 ic_1 ?_
    refine Ex_iand d_rm_isFound_3 ?_
    rw [show (((nI (m)) &&& (1 : Int32)) : Int32) = (nI (m % 2)) from (nI_1m m)]
    refine Ex_if_neN (m % 2) 16 d_rm_isFound_4 rfl rfl (by omega) (fun hc4 => ?_) (fun hc4 => ?_)
    · refine Ex_aload_n d_rm_isFound_16 rfl ?_
      refine Ex_iload_n d_rm_isFound_17 rfl ?_
      refine Ex_pV1 (v := .int (nI (wd P q))) d_rm_isFound_18 pk_rm_isFound_269 (t_38 hs) (rm_wide_s hs hK hO hP hQ hq hg.1) ?_
      refine Ex_istore [some (.ref 38), some (.int (nI (p))), some (.int (nI (q))), some (.int (nI (i))), some (.int (J (j))), some (.int (nI (m))), some (.int (nI (wd P q))), none, none, none] d_rm_isFound_21 (Nat.le_of_ble_eq_true rfl) rfl ?_
      refine Ex_iload d_rm_isFound_23 rfl ?_
      refine Ex_iconst d_rm_isFound_25 ic_1 ?_
      refine Ex_iand d_rm_isFound_26 ?_
      rw [show (((nI (m)) &&& (1 : Int32)) : Int32) = (nI (m % 2)) from (nI_1m m)]
      refine Ex_if_neN (m % 2) 38 d_rm_isFound_27 rfl rfl (by omega) (fun hc27 => ?_) (fun hc27 => ?_)
      · refine Ex_aload_n d_rm_isFound_38 rfl ?_
        refine Ex_getR (v := .ref 48) d_rm_isFound_39 pf_rm_40 rfl (t_38 hs) (r_38_11 hs) ?_
        refine Ex_iload_n d_rm_isFound_42 rfl ?_
        refine Ex_ialoadN (a := q) (y := (nI (ln P q))) d_rm_isFound_43 (t_48 hs) rfl (by omega) (by decide) (hP.2.1.2 q hq).1 ?_
        refine Ex_istore [some (.ref 38), some (.int (nI (p))), some (.int (nI (q))), some (.int (nI (i))), some (.int (J (j))), some (.int (nI (m))), some (.int (nI (wd P q))), some (.int (nI (ln P q))), none, none] d_rm_isFound_44 (Nat.le_of_ble_eq_true rfl) rfl ?_
        refine Ex_ls (ls' := [some (.ref 38), some (.int (nI (p))), some (.int (nI (q))), some (.int (nI (i))), some (.int (J (j))), some (.int (nI (m))), some (.int (nI (tRp P q m))), some (.int (nI (tCp P q m))), none, none]) (by rw [hR, hC]) ?_
        refine Ex_iconst d_rm_isFound_46 ic_1 ?_
        refine Ex_istore [some (.ref 38), some (.int (nI (p))), some (.int (nI (q))), some (.int (nI (i))), some (.int (J (j))), some (.int (nI (m))), some (.int (nI (tRp P q m))), some (.int (nI (tCp P q m))), some (.int (1)), none] d_rm_isFound_47 (Nat.le_of_ble_eq_true rfl) rfl ?_
        refine Ex_iconst d_rm_isFound_49 ic_0 ?_
        refine Ex_istore [some (.ref 38), some (.int (nI (p))), some (.int (nI (q))), some (.int (nI (i))), some (.int (J (j))), some (.int (nI (m))), some (.int (nI (tRp P q m))), some (.int (nI (tCp P q m))), some (.int (1)), some (.int (0))] d_rm_isFound_50 (Nat.le_of_ble_eq_true rfl) rfl ?_
        exact rm_isFound_L hs hK hO hP hQ hp hq hg hm hi hj (tRp P q m * tCp P q m) 0 (by omega) (fun u hu => absurd hu (by omega)) h Fr.rf
      · exfalso; omega
    · exfalso; omega
