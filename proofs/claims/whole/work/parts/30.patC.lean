/-! The class: what it holds of patterns and rows; looking at them. -/
abbrev OW : Type := Nat → Nat × Nat
def RwC1 (P : SP) (Y : OW) (h : mj_H) (r a : Nat) : Prop := (74 ≤ a ∧ Y a = (0, r)) ∧ mR h 23 r = some a ∧ mT h a = some (0, pL P r) ∧ mI h 22 r = J (pO P r) ∧ ∀ k, k < pL P r → mI h a k = eC (pC P r k)
def RwC (P : SP) (Y : OW) (h : mj_H) : Prop := mI h 21 0 = nI (pMd P) ∧ ∀ r, r < pMd P → ∃ a, RwC1 P Y h r a
def Pob (h : mj_H) (a b : Nat) (l : List Nat) : Prop := (mT h a = some (16, 3) ∧ mR h a 0 = some 21 ∧ mR h a 1 = some b ∧ mT h b = some (0, 60)) ∧ mI h a 2 = nI l.length ∧ ∀ i, i < l.length → mI h b i = nI (l.getD i 0)
def PaC1 (P : SP) (Y : OW) (h : mj_H) (p a b : Nat) : Prop := (74 ≤ a ∧ 74 ≤ b ∧ Y a = (1, p) ∧ Y b = (2, p)) ∧ mR h 24 p = some a ∧ Pob h a b (pPat P p)
def PaC (P : SP) (Y : OW) (h : mj_H) : Prop := mI h 0 3 = nI (pNp P) ∧ ∀ p, p < pNp P → ∃ a b, PaC1 P Y h p a b
def HiC (P : SP) (h : mj_H) : Prop := mI h 25 0 = nI (pHi P).length ∧ ∃ ua, mI h 25 1 = nI ua ∧ ring (mI h 26) (mI h 27) (mI h 28) ua (pHi P)
def PC (P : SP) (Y : OW) (h : mj_H) : Prop := RwC P Y h ∧ PaC P Y h ∧ HiC P h
def idS (l : List Nat) (i : Int) : Int := if 0 ≤ i ∧ i < l.length then ((l.getD i.toNat 0 : Nat) : Int) else -1
def lnS (P : SP) (l : List Nat) (i : Int) : Nat := if 0 ≤ i ∧ i < l.length then pL P (l.getD i.toNat 0) else 0
def ofS (P : SP) (l : List Nat) (i : Int) : Int := if 0 ≤ i ∧ i < l.length then pO P (l.getD i.toNat 0) else 0
def lAt (P : SP) (l : List Nat) (i j : Int) : Option Tl := if 0 ≤ i ∧ i < l.length then rAt P (l.getD i.toNat 0) j else none
theorem cAt_l (P : SP) (p : Nat) (i j : Int) : cAt P p i j = lAt P (pPat P p) i j := rfl
theorem lAt_ok {n : Nat} {P : SP} (hP : PO n P) {l : List Nat} (hl : okL (pMd P) l) {i j : Int} : okA n (lAt P l i j) := by
  unfold lAt
  split
  · rename_i h1
    have hr := hl.2 _ (getD_mem (l := l) (i := i.toNat) (by omega))
    unfold rAt
    split
    · rename_i h2
      exact (hP.2.1 _ hr).2.2.2 _ (by omega)
    · trivial
  · trivial
theorem idS_in {md : Nat} {l : List Nat} (hl : okL md l) {i : Int} (h : 0 ≤ i ∧ i < l.length) : ∃ r : Nat, idS l i = (r : Int) ∧ r < md ∧ r = l.getD i.toNat 0 := by
  refine ⟨l.getD i.toNat 0, ?_, hl.2 _ (getD_mem (by omega)), rfl⟩
  unfold idS
  rw [if_pos h]
theorem idS_out {l : List Nat} {i : Int} (h : ¬ (0 ≤ i ∧ i < l.length)) : idS l i = -1 := by
  unfold idS
  rw [if_neg h]
theorem eA_n : eA none = -2 := rfl
theorem Pu_r {h : mj_H} {a : Nat} : Pu (.ref a) h (some (.ref a)) h := ⟨rfl, rfl⟩
theorem rs_cellsOf_s {S : mj_S} {h : mj_H} (hs : HT h) {P : SP} {Y : OW} (hR : RwC P Y h) {n : Nat} (hQ : PO n P) {r a : Nat} (hr : r < pMd P) (h1 : RwC1 P Y h r a) : Cl S rs_cellsOf [.ref 21, .int (nI (r))] h (Pu (.ref a) h) := by
  show Ex S rs_cellsOf 0 [some (.ref 21), some (.int (nI (r)))] [] h _
  have hmd : pMd P ≤ 6000 := hQ.1
  refine Ex_iload_n d_rs_cellsOf_0 rfl ?_
  refine Ex_if_ltN (r) 21 d_rs_cellsOf_1 rfl rfl (by omega) (fun hc1 => ?_) (fun hc1 => ?_)
  · exfalso; omega
  · refine Ex_iload_n d_rs_cellsOf_4 rfl ?_
    refine Ex_aload_n d_rs_cellsOf_5 rfl ?_
    refine Ex_getIE d_rs_cellsOf_6 pf_rs_20 rfl (t_21 hs) hR.1 ?_
    refine Ex_icmp_geN (r) (pMd P) 21 d_rs_cellsOf_9 rfl rfl rfl (by omega) (by omega) (fun hc9 => ?_) (fun hc9 => ?_)
    · exfalso; omega
    · refine Ex_aload_n d_rs_cellsOf_12 rfl ?_
      refine Ex_getR d_rs_cellsOf_13 pf_rs_16 rfl (t_21 hs) (r_21_2 hs) ?_
      refine Ex_iload_n d_rs_cellsOf_16 rfl ?_
      refine Ex_aaloadN (a := r) d_rs_cellsOf_17 (t_23 hs) (by decide) rfl (by omega) (by decide) (congrArg va_rf h1.2.1) ?_
      refine Ex_goto 22 d_rs_cellsOf_18 rfl ?_
      refine Ex_areturn d_rs_cellsOf_22 rfl (Or.inr ⟨_, rfl⟩) ?_
      exact Pu_r
theorem rs_cellsOf_n {S : mj_S} {h : mj_H} : Cl S rs_cellsOf [.ref 21, .int (-1)] h (Pu .null h) := by
  show Ex S rs_cellsOf 0 [some (.ref 21), some (.int (-1))] [] h _
  refine Ex_iload_n d_rs_cellsOf_0 rfl ?_
  refine Ex_if_ltZ ((-1)) 21 d_rs_cellsOf_1 rfl (by decide) (by omega) (fun hc1 => ?_) (fun hc1 => ?_)
  · refine Ex_aconst_null d_rs_cellsOf_21 ?_
    refine Ex_areturn0 d_rs_cellsOf_22 rfl (Or.inr ⟨_, rfl⟩) ?_
    exact ⟨rfl, rfl⟩
  · exact absurd hc1 (by decide)
theorem rs_offsetOf_s {S : mj_S} {h : mj_H} (hs : HT h) {P : SP} {Y : OW} (hR : RwC P Y h) {n : Nat} (hQ : PO n P) {r a : Nat} (hr : r < pMd P) (h1 : RwC1 P Y h r a) : Cl S rs_offsetOf [.ref 21, .int (nI (r))] h (Pu (.int (J (pO P r))) h) := by
  show Ex S rs_offsetOf 0 [some (.ref 21), some (.int (nI (r)))] [] h _
  have hmd : pMd P ≤ 6000 := hQ.1
  refine Ex_iload_n d_rs_offsetOf_0 rfl ?_
  refine Ex_if_ltN (r) 21 d_rs_offsetOf_1 rfl rfl (by omega) (fun hc1 => ?_) (fun hc1 => ?_)
  · exfalso; omega
  · refine Ex_iload_n d_rs_offsetOf_4 rfl ?_
    refine Ex_aload_n d_rs_offsetOf_5 rfl ?_
    refine Ex_getIE d_rs_offsetOf_6 pf_rs_20 rfl (t_21 hs) hR.1 ?_
    refine Ex_icmp_geN (r) (pMd P) 21 d_rs_offsetOf_9 rfl rfl rfl (by omega) (by omega) (fun hc9 => ?_) (fun hc9 => ?_)
    · exfalso; omega
    · refine Ex_aload_n d_rs_offsetOf_12 rfl ?_
      refine Ex_getR d_rs_offsetOf_13 pf_rs_11 rfl (t_21 hs) (r_21_1 hs) ?_
      refine Ex_iload_n d_rs_offsetOf_16 rfl ?_
      refine Ex_ialoadN (a := r) d_rs_offsetOf_17 (t_22 hs) rfl (by omega) (by decide) h1.2.2.2.1 ?_
      refine Ex_goto 22 d_rs_offsetOf_18 rfl ?_
      refine Ex_ireturn d_rs_offsetOf_22 rfl ?_
      exact ⟨rfl, rfl⟩
theorem rs_offsetOf_n {S : mj_S} {h : mj_H} : Cl S rs_offsetOf [.ref 21, .int (-1)] h (Pu (.int 0) h) := by
  show Ex S rs_offsetOf 0 [some (.ref 21), some (.int (-1))] [] h _
  refine Ex_iload_n d_rs_offsetOf_0 rfl ?_
  refine Ex_if_ltZ ((-1)) 21 d_rs_offsetOf_1 rfl (by decide) (by omega) (fun hc1 => ?_) (fun hc1 => ?_)
  · refine Ex_iconst d_rs_offsetOf_21 ic_0 ?_
    refine Ex_ireturn d_rs_offsetOf_22 rfl ?_
    exact ⟨rfl, rfl⟩
  · exact absurd hc1 (by decide)
theorem rs_lengthOf_s {S : mj_S} {h : mj_H} (hs : HT h) {P : SP} {Y : OW} (hR : RwC P Y h) {n : Nat} (hQ : PO n P) {r a : Nat} (hr : r < pMd P) (h1 : RwC1 P Y h r a) : Cl S rs_lengthOf [.ref 21, .int (nI (r))] h (Pu (.int (nI (pL P r))) h) := by
  show Ex S rs_lengthOf 0 [some (.ref 21), some (.int (nI (r))), none] [] h _
  refine Ex_aload_n d_rs_lengthOf_0 rfl ?_
  refine Ex_iload_n d_rs_lengthOf_1 rfl ?_
  refine Ex_pV1 d_rs_lengthOf_2 pk_rs_lengthOf_40 (t_21 hs) (rs_cellsOf_s hs hR hQ hr h1) ?_
  refine Ex_astore_n [some (.ref 21), some (.int (nI (r))), some (.ref (a))] d_rs_lengthOf_5 (Nat.le_of_ble_eq_true rfl) rfl ?_
  refine Ex_aload_n d_rs_lengthOf_6 rfl ?_
  refine Ex_ifnonnull 14 d_rs_lengthOf_7 rfl ?_
  refine Ex_aload_n d_rs_lengthOf_14 rfl ?_
  refine Ex_arraylength d_rs_lengthOf_15 h1.2.2.1 (by decide) ?_
  refine Ex_ireturn d_rs_lengthOf_16 rfl ?_
  exact ⟨rfl, rfl⟩
theorem rs_lengthOf_n {S : mj_S} {h : mj_H} (hs : HT h) : Cl S rs_lengthOf [.ref 21, .int (-1)] h (Pu (.int 0) h) := by
  show Ex S rs_lengthOf 0 [some (.ref 21), some (.int (-1)), none] [] h _
  refine Ex_aload_n d_rs_lengthOf_0 rfl ?_
  refine Ex_iload_n d_rs_lengthOf_1 rfl ?_
  refine Ex_pV1 d_rs_lengthOf_2 pk_rs_lengthOf_40 (t_21 hs) rs_cellsOf_n ?_
  refine Ex_astore0_n [some (.ref 21), some (.int (-1)), some (.null)] d_rs_lengthOf_5 (Nat.le_of_ble_eq_true rfl) rfl ?_
  refine Ex_aload0_n d_rs_lengthOf_6 rfl ?_
  refine Ex_ifnonnull0 d_rs_lengthOf_7 ?_
  refine Ex_iconst d_rs_lengthOf_10 ic_0 ?_
  refine Ex_goto 16 d_rs_lengthOf_11 rfl ?_
  refine Ex_ireturn d_rs_lengthOf_16 rfl ?_
  exact ⟨rfl, rfl⟩
theorem rs_cellAt_s {S : mj_S} {h : mj_H} (hs : HT h) {P : SP} {Y : OW} (hR : RwC P Y h) {n : Nat} (hQ : PO n P) {r a : Nat} (hr : r < pMd P) (h1 : RwC1 P Y h r a) {j : Int} (hj : -9223372036854775000 ≤ j ∧ j < 9223372036854775000) : Cl S rs_cellAt [.ref 21, .int (nI (r)), .long (JL (j))] h (Pu (.int (eA (rAt P r j))) h) := by
  show Ex S rs_cellAt 0 [some (.ref 21), some (.int (nI (r))), some (.long (JL (j))), none, none, none, none] [] h _
  have hro := hQ.2.1 r hr
  refine Ex_aload_n d_rs_cellAt_0 rfl ?_
  refine Ex_iload_n d_rs_cellAt_1 rfl ?_
  refine Ex_pV1 d_rs_cellAt_2 pk_rs_cellAt_40 (t_21 hs) (rs_cellsOf_s hs hR hQ hr h1) ?_
  refine Ex_astore [some (.ref 21), some (.int (nI (r))), some (.long (JL (j))), none, some (.ref (a)), none, none] d_rs_cellAt_5 (Nat.le_of_ble_eq_true rfl) rfl ?_
  refine Ex_lload_n d_rs_cellAt_7 rfl ?_
  refine Ex_aload_n d_rs_cellAt_8 rfl ?_
  refine Ex_iload_n d_rs_cellAt_9 rfl ?_
  refine Ex_pV1 d_rs_cellAt_10 pk_rs_cellAt_48 (t_21 hs) (rs_offsetOf_s hs hR hQ hr h1) ?_
  refine Ex_i2lZ (pO P r) d_rs_cellAt_13 rfl (by omega) ?_
  refine Ex_lsubZ (j) (pO P r) d_rs_cellAt_14 rfl rfl ?_
  refine Ex_lstore [some (.ref 21), some (.int (nI (r))), some (.long (JL (j))), none, some (.ref (a)), some (.long (JL (j - (pO P r)))), none] d_rs_cellAt_15 (Nat.le_of_ble_eq_true rfl) rfl ?_
  refine Ex_aload d_rs_cellAt_17 rfl ?_
  refine Ex_ifnull d_rs_cellAt_19 ?_
  refine Ex_lload d_rs_cellAt_22 rfl ?_
  refine Ex_lconst d_rs_cellAt_24 lc_0 ?_
  refine Ex_lcmp d_rs_cellAt_25 ?_
  refine Ex_if_ltLZ (j - (pO P r)) (0) 39 d_rs_cellAt_26 rfl rfl (by decide) (by omega) (by omega) (fun hc26 => ?_) (fun hc26 => ?_)
  · refine Ex_bipush d_rs_cellAt_39 bp_m2 ?_
    refine Ex_goto 50 d_rs_cellAt_41 rfl ?_
    refine Ex_ireturn d_rs_cellAt_50 rfl ?_
    exact Pu_i (by unfold rAt; rw [if_neg (by omega)]; rfl)
  · refine Ex_lload d_rs_cellAt_29 rfl ?_
    refine Ex_aload d_rs_cellAt_31 rfl ?_
    refine Ex_arraylength d_rs_cellAt_33 h1.2.2.1 (by decide) ?_
    refine Ex_i2lZ (((pL P r : Nat) : Int)) d_rs_cellAt_34 (nIJ _) (by omega) ?_
    refine Ex_lcmp d_rs_cellAt_35 ?_
    refine Ex_if_ltLZ (j - (pO P r)) (((pL P r : Nat) : Int)) 44 d_rs_cellAt_36 rfl rfl rfl (by omega) (by omega) (fun hc36 => ?_) (fun hc36 => ?_)
    · obtain ⟨k, hk⟩ : ∃ k : Nat, (k : Int) = j - pO P r := ⟨(j - pO P r).toNat, by omega⟩
      have hkl : k < pL P r := by omega
      refine Ex_aload d_rs_cellAt_44 rfl ?_
      refine Ex_lload d_rs_cellAt_46 rfl ?_
      refine Ex_l2iZ (j - (pO P r)) d_rs_cellAt_48 rfl (by omega) ?_
      rw [show ((J (j - (pO P r))) : Int32) = (nI (k)) from (by rw [← hk, nIJ])]
      refine Ex_ialoadN (a := k) d_rs_cellAt_49 h1.2.2.1 rfl (by omega) (by omega) (h1.2.2.2.2 k hkl) ?_
      refine Ex_ireturn d_rs_cellAt_50 rfl ?_
      exact Pu_i (by unfold rAt; rw [if_pos (by omega), ← hk, Int.toNat_natCast]; rfl)
    · refine Ex_bipush d_rs_cellAt_39 bp_m2 ?_
      refine Ex_goto 50 d_rs_cellAt_41 rfl ?_
      refine Ex_ireturn d_rs_cellAt_50 rfl ?_
      exact Pu_i (by unfold rAt; rw [if_neg (by omega)]; rfl)
theorem rs_cellAt_n {S : mj_S} {h : mj_H} (hs : HT h) {j : Int} (hj : -9223372036854775000 ≤ j ∧ j < 9223372036854775000) : Cl S rs_cellAt [.ref 21, .int (-1), .long (JL (j))] h (Pu (.int (-2)) h) := by
  show Ex S rs_cellAt 0 [some (.ref 21), some (.int (-1)), some (.long (JL (j))), none, none, none, none] [] h _
  refine Ex_aload_n d_rs_cellAt_0 rfl ?_
  refine Ex_iload_n d_rs_cellAt_1 rfl ?_
  refine Ex_pV1 d_rs_cellAt_2 pk_rs_cellAt_40 (t_21 hs) rs_cellsOf_n ?_
  refine Ex_astore0 [some (.ref 21), some (.int (-1)), some (.long (JL (j))), none, some (.null), none, none] d_rs_cellAt_5 (Nat.le_of_ble_eq_true rfl) rfl ?_
  refine Ex_lload_n d_rs_cellAt_7 rfl ?_
  refine Ex_aload_n d_rs_cellAt_8 rfl ?_
  refine Ex_iload_n d_rs_cellAt_9 rfl ?_
  refine Ex_pV1 d_rs_cellAt_10 pk_rs_cellAt_48 (t_21 hs) rs_offsetOf_n ?_
  refine Ex_i2lZ ((0)) d_rs_cellAt_13 (by decide) (by omega) ?_
  refine Ex_lsubZ (j) ((0)) d_rs_cellAt_14 rfl rfl ?_
  refine Ex_lstore [some (.ref 21), some (.int (-1)), some (.long (JL (j))), none, some (.null), some (.long (JL (j - ((0))))), none] d_rs_cellAt_15 (Nat.le_of_ble_eq_true rfl) rfl ?_
  refine Ex_aload0 d_rs_cellAt_17 rfl ?_
  refine Ex_ifnull0 39 d_rs_cellAt_19 rfl ?_
  refine Ex_bipush d_rs_cellAt_39 bp_m2 ?_
  refine Ex_goto 50 d_rs_cellAt_41 rfl ?_
  refine Ex_ireturn d_rs_cellAt_50 rfl ?_
  exact ⟨rfl, rfl⟩
theorem pa_hasRow_s {S : mj_S} {h : mj_H} {a b : Nat} {l : List Nat} (hB : Pob h a b l) (h60 : l.length ≤ 60) {i : Int} (hi : -9223372036854775000 ≤ i ∧ i < 9223372036854775000) : Cl S pa_hasRow [.ref (a), .long (JL (i))] h (Pu (.int (bI (decide (0 ≤ i ∧ i < l.length)))) h) := by
  show Ex S pa_hasRow 0 [some (.ref (a)), some (.long (JL (i))), none] [] h _
  refine Ex_lload_n d_pa_hasRow_0 rfl ?_
  refine Ex_lconst d_pa_hasRow_1 lc_0 ?_
  refine Ex_lcmp d_pa_hasRow_2 ?_
  refine Ex_if_ltLZ (i) (0) 20 d_pa_hasRow_3 rfl rfl (by decide) (by omega) (by omega) (fun hc3 => ?_) (fun hc3 => ?_)
  · refine Ex_iconst d_pa_hasRow_20 ic_0 ?_
    refine Ex_zreturn d_pa_hasRow_21 rfl (by decide) ?_
    exact Pu_f (by omega)
  · refine Ex_lload_n d_pa_hasRow_6 rfl ?_
    refine Ex_aload_n d_pa_hasRow_7 rfl ?_
    refine Ex_getIE d_pa_hasRow_8 pf_pa_19 rfl hB.1.1 hB.2.1 ?_
    refine Ex_i2lZ (((l.length : Nat) : Int)) d_pa_hasRow_11 (nIJ _) (by omega) ?_
    refine Ex_lcmp d_pa_hasRow_12 ?_
    refine Ex_if_geLZ (i) (((l.length : Nat) : Int)) 20 d_pa_hasRow_13 rfl rfl rfl (by omega) (by omega) (fun hc13 => ?_) (fun hc13 => ?_)
    · refine Ex_iconst d_pa_hasRow_20 ic_0 ?_
      refine Ex_zreturn d_pa_hasRow_21 rfl (by decide) ?_
      exact Pu_f (by omega)
    · refine Ex_iconst d_pa_hasRow_16 ic_1 ?_
      refine Ex_goto 21 d_pa_hasRow_17 rfl ?_
      refine Ex_zreturn d_pa_hasRow_21 rfl (by decide) ?_
      exact Pu_t (by omega)
theorem pa_idAt_s {S : mj_S} {h : mj_H} {a b : Nat} {l : List Nat} (hB : Pob h a b l) (h60 : l.length ≤ 60) {i : Int} (hi : -9223372036854775000 ≤ i ∧ i < 9223372036854775000) : Cl S pa_idAt [.ref (a), .long (JL (i))] h (Pu (.int (J (idS l i))) h) := by
  show Ex S pa_idAt 0 [some (.ref (a)), some (.long (JL (i))), none] [] h _
  refine Ex_aload_n d_pa_idAt_0 rfl ?_
  refine Ex_lload_n d_pa_idAt_1 rfl ?_
  refine Ex_pV1 d_pa_idAt_2 pk_pa_idAt_23 hB.1.1 (pa_hasRow_s hB h60 hi) ?_
  refine Ex_if_eqB (decide (0 ≤ i ∧ i < l.length)) 18 d_pa_idAt_5 rfl rfl (fun hc5 => ?_) (fun hc5 => ?_)
  · rw [decide_eq_false_iff_not] at hc5
    refine Ex_iconst d_pa_idAt_18 ic_m1 ?_
    refine Ex_ireturn d_pa_idAt_19 rfl ?_
    exact Pu_m1 (idS_out hc5)
  · rw [decide_eq_true_eq] at hc5
    obtain ⟨k, rfl⟩ : ∃ k : Nat, i = (k : Int) := ⟨i.toNat, by omega⟩
    refine Ex_aload_n d_pa_idAt_8 rfl ?_
    refine Ex_getR d_pa_idAt_9 pf_pa_11 rfl hB.1.1 (congrArg va_rf hB.1.2.2.1) ?_
    refine Ex_lload_n d_pa_idAt_12 rfl ?_
    refine Ex_l2iZ ((k : Int)) d_pa_idAt_13 rfl (by omega) ?_
    rw [show ((J ((k : Int))) : Int32) = (nI (k)) from (nIJ _).symm]
    refine Ex_ialoadN (a := k) d_pa_idAt_14 hB.1.2.2.2 rfl (by omega) (by decide) (hB.2.2 k (by omega)) ?_
    refine Ex_goto 19 d_pa_idAt_15 rfl ?_
    refine Ex_ireturn d_pa_idAt_19 rfl ?_
    exact Pu_nz (by unfold idS; rw [if_pos hc5]; rfl)
theorem pa_lengthAt_s {S : mj_S} {h : mj_H} (hs : HT h) {P : SP} {Y : OW} (hR : RwC P Y h) {n : Nat} (hQ : PO n P) {a b : Nat} {l : List Nat} (hB : Pob h a b l) (hl : okL (pMd P) l) {i : Int} (hi : -2147483648 ≤ i ∧ i < 2147483648) : Cl S pa_lengthAt [.ref (a), .int (J (i))] h (Pu (.int (nI (lnS P l i))) h) := by
  show Ex S pa_lengthAt 0 [some (.ref (a)), some (.int (J (i)))] [] h _
  by_cases hin : 0 ≤ i ∧ i < l.length
  · obtain ⟨r, hid, hr, hrl⟩ := idS_in hl hin
    obtain ⟨x, h1⟩ := hR.2 r hr
    have e0 : lnS P l i = pL P r := by unfold lnS; rw [if_pos hin, hrl]
    refine Ex_aload_n d_pa_lengthAt_0 rfl ?_
    refine Ex_getR d_pa_lengthAt_1 pf_pa_15 rfl hB.1.1 (congrArg va_rf hB.1.2.1) ?_
    refine Ex_aload_n d_pa_lengthAt_4 rfl ?_
    refine Ex_iload_n d_pa_lengthAt_5 rfl ?_
    refine Ex_i2lZ (i) d_pa_lengthAt_6 rfl (by omega) ?_
    refine Ex_pV1 d_pa_lengthAt_7 pk_pa_lengthAt_27 hB.1.1 (show Cl S pa_idAt _ h (Pu (.int (nI r)) h) by rw [nIJ, ← hid]; exact pa_idAt_s hB hl.1 (by omega)) ?_
    refine Ex_pV1 d_pa_lengthAt_10 pk_pa_lengthAt_31 (t_21 hs) (rs_lengthOf_s hs hR hQ hr h1) ?_
    refine Ex_ireturn d_pa_lengthAt_13 rfl ?_
    exact Pu_i (by rw [e0])
  · have e0 : lnS P l i = 0 := by unfold lnS; rw [if_neg hin]
    refine Ex_aload_n d_pa_lengthAt_0 rfl ?_
    refine Ex_getR d_pa_lengthAt_1 pf_pa_15 rfl hB.1.1 (congrArg va_rf hB.1.2.1) ?_
    refine Ex_aload_n d_pa_lengthAt_4 rfl ?_
    refine Ex_iload_n d_pa_lengthAt_5 rfl ?_
    refine Ex_i2lZ (i) d_pa_lengthAt_6 rfl (by omega) ?_
    refine Ex_pV1 d_pa_lengthAt_7 pk_pa_lengthAt_27 hB.1.1 (show Cl S pa_idAt _ h (Pu (.int (-1)) h) by rw [show (-1 : Int32) = J (idS l i) by rw [idS_out hin]; rfl]; exact pa_idAt_s hB hl.1 (by omega)) ?_
    refine Ex_pV1 d_pa_lengthAt_10 pk_pa_lengthAt_31 (t_21 hs) (rs_lengthOf_n hs) ?_
    refine Ex_ireturn d_pa_lengthAt_13 rfl ?_
    exact Pu_i (by rw [e0]; rfl)
theorem pa_offsetAt_s {S : mj_S} {h : mj_H} (hs : HT h) {P : SP} {Y : OW} (hR : RwC P Y h) {n : Nat} (hQ : PO n P) {a b : Nat} {l : List Nat} (hB : Pob h a b l) (hl : okL (pMd P) l) {i : Int} (hi : -2147483648 ≤ i ∧ i < 2147483648) : Cl S pa_offsetAt [.ref (a), .int (J (i))] h (Pu (.int (J (ofS P l i))) h) := by
  show Ex S pa_offsetAt 0 [some (.ref (a)), some (.int (J (i)))] [] h _
  by_cases hin : 0 ≤ i ∧ i < l.length
  · obtain ⟨r, hid, hr, hrl⟩ := idS_in hl hin
    obtain ⟨x, h1⟩ := hR.2 r hr
    have e0 : ofS P l i = pO P r := by unfold ofS; rw [if_pos hin, hrl]
    refine Ex_aload_n d_pa_offsetAt_0 rfl ?_
    refine Ex_getR d_pa_offsetAt_1 pf_pa_15 rfl hB.1.1 (congrArg va_rf hB.1.2.1) ?_
    refine Ex_aload_n d_pa_offsetAt_4 rfl ?_
    refine Ex_iload_n d_pa_offsetAt_5 rfl ?_
    refine Ex_i2lZ (i) d_pa_offsetAt_6 rfl (by omega) ?_
    refine Ex_pV1 d_pa_offsetAt_7 pk_pa_offsetAt_27 hB.1.1 (show Cl S pa_idAt _ h (Pu (.int (nI r)) h) by rw [nIJ, ← hid]; exact pa_idAt_s hB hl.1 (by omega)) ?_
    refine Ex_pV1 d_pa_offsetAt_10 pk_pa_offsetAt_37 (t_21 hs) (rs_offsetOf_s hs hR hQ hr h1) ?_
    refine Ex_ireturn d_pa_offsetAt_13 rfl ?_
    exact Pu_i (by rw [e0])
  · have e0 : ofS P l i = 0 := by unfold ofS; rw [if_neg hin]
    refine Ex_aload_n d_pa_offsetAt_0 rfl ?_
    refine Ex_getR d_pa_offsetAt_1 pf_pa_15 rfl hB.1.1 (congrArg va_rf hB.1.2.1) ?_
    refine Ex_aload_n d_pa_offsetAt_4 rfl ?_
    refine Ex_iload_n d_pa_offsetAt_5 rfl ?_
    refine Ex_i2lZ (i) d_pa_offsetAt_6 rfl (by omega) ?_
    refine Ex_pV1 d_pa_offsetAt_7 pk_pa_offsetAt_27 hB.1.1 (show Cl S pa_idAt _ h (Pu (.int (-1)) h) by rw [show (-1 : Int32) = J (idS l i) by rw [idS_out hin]; rfl]; exact pa_idAt_s hB hl.1 (by omega)) ?_
    refine Ex_pV1 d_pa_offsetAt_10 pk_pa_offsetAt_37 (t_21 hs) (rs_offsetOf_n) ?_
    refine Ex_ireturn d_pa_offsetAt_13 rfl ?_
    exact Pu_i (by rw [e0]; rfl)
theorem pa_cellAt_s {S : mj_S} {h : mj_H} (hs : HT h) {P : SP} {Y : OW} (hR : RwC P Y h) {n : Nat} (hQ : PO n P) {a b : Nat} {l : List Nat} (hB : Pob h a b l) (hl : okL (pMd P) l) {i : Int} (hi : -9223372036854775000 ≤ i ∧ i < 9223372036854775000) {j : Int} (hj : -9223372036854775000 ≤ j ∧ j < 9223372036854775000) : Cl S pa_cellAt [.ref (a), .long (JL (i)), .long (JL (j))] h (Pu (.int (eA (lAt P l i j))) h) := by
  show Ex S pa_cellAt 0 [some (.ref (a)), some (.long (JL (i))), none, some (.long (JL (j))), none] [] h _
  by_cases hin : 0 ≤ i ∧ i < l.length
  · obtain ⟨r, hid, hr, hrl⟩ := idS_in hl hin
    obtain ⟨x, h1⟩ := hR.2 r hr
    have e0 : lAt P l i j = rAt P r j := by unfold lAt; rw [if_pos hin, hrl]
    refine Ex_aload_n d_pa_cellAt_0 rfl ?_
    refine Ex_getR d_pa_cellAt_1 pf_pa_15 rfl hB.1.1 (congrArg va_rf hB.1.2.1) ?_
    refine Ex_aload_n d_pa_cellAt_4 rfl ?_
    refine Ex_lload_n d_pa_cellAt_5 rfl ?_
    refine Ex_pV1 d_pa_cellAt_6 pk_pa_cellAt_27 hB.1.1 (show Cl S pa_idAt _ h (Pu (.int (nI r)) h) by rw [nIJ, ← hid]; exact pa_idAt_s hB hl.1 (by omega)) ?_
    refine Ex_lload_n d_pa_cellAt_9 rfl ?_
    refine Ex_pV2 d_pa_cellAt_10 pk_pa_cellAt_40 (t_21 hs) (rs_cellAt_s hs hR hQ hr h1 hj) ?_
    refine Ex_ireturn d_pa_cellAt_13 rfl ?_
    exact Pu_i (by rw [e0])
  · have e0 : lAt P l i j = none := by unfold lAt; rw [if_neg hin]
    refine Ex_aload_n d_pa_cellAt_0 rfl ?_
    refine Ex_getR d_pa_cellAt_1 pf_pa_15 rfl hB.1.1 (congrArg va_rf hB.1.2.1) ?_
    refine Ex_aload_n d_pa_cellAt_4 rfl ?_
    refine Ex_lload_n d_pa_cellAt_5 rfl ?_
    refine Ex_pV1 d_pa_cellAt_6 pk_pa_cellAt_27 hB.1.1 (show Cl S pa_idAt _ h (Pu (.int (-1)) h) by rw [show (-1 : Int32) = J (idS l i) by rw [idS_out hin]; rfl]; exact pa_idAt_s hB hl.1 (by omega)) ?_
    refine Ex_lload_n d_pa_cellAt_9 rfl ?_
    refine Ex_pV2 d_pa_cellAt_10 pk_pa_cellAt_40 (t_21 hs) (rs_cellAt_n hs hj) ?_
    refine Ex_ireturn d_pa_cellAt_13 rfl ?_
    exact Pu_i (by rw [e0]; rfl)
theorem to_patternOf_s {S : mj_S} {h : mj_H} (hs : HT h) {P : SP} {Y : OW} (hP : PC P Y h) {n : Nat} (hQ : PO n P) {p x y : Nat} (hp : p < pNp P) (h1 : PaC1 P Y h p x y) : Cl S to_patternOf [.ref 0, .int (nI (p))] h (Pu (.ref x) h) := by
  show Ex S to_patternOf 0 [some (.ref 0), some (.int (nI (p)))] [] h _
  have hnp := hQ.2.2.1
  refine Ex_iload_n d_to_patternOf_0 rfl ?_
  refine Ex_if_ltN (p) 21 d_to_patternOf_1 rfl rfl (by omega) (fun hc1 => ?_) (fun hc1 => ?_)
  · exfalso; omega
  · refine Ex_iload_n d_to_patternOf_4 rfl ?_
    refine Ex_aload_n d_to_patternOf_5 rfl ?_
    refine Ex_getIE d_to_patternOf_6 pf_to_128 rfl (t_0 hs) hP.2.1.1 ?_
    refine Ex_icmp_geN (p) (pNp P) 21 d_to_patternOf_9 rfl rfl rfl (by omega) (by omega) (fun hc9 => ?_) (fun hc9 => ?_)
    · exfalso; omega
    · refine Ex_aload_n d_to_patternOf_12 rfl ?_
      refine Ex_getR d_to_patternOf_13 pf_to_48 rfl (t_0 hs) (r_0_2 hs) ?_
      refine Ex_iload_n d_to_patternOf_16 rfl ?_
      refine Ex_aaloadN (a := p) d_to_patternOf_17 (t_24 hs) (by decide) rfl (by omega) (by decide) (congrArg va_rf h1.2.1) ?_
      refine Ex_goto 22 d_to_patternOf_18 rfl ?_
      refine Ex_areturn d_to_patternOf_22 rfl (Or.inl ⟨_, rfl⟩) ?_
      exact Pu_r
theorem to_patternOf_n {S : mj_S} {h : mj_H} (hs : HT h) {P : SP} {Y : OW} (hP : PC P Y h) {n : Nat} (hQ : PO n P) {z : Int} (hz : -2147483648 ≤ z ∧ z < 2147483648) (hn : ¬ (0 ≤ z ∧ z < pNp P)) : Cl S to_patternOf [.ref 0, .int (J (z))] h (Pu .null h) := by
  show Ex S to_patternOf 0 [some (.ref 0), some (.int (J (z)))] [] h _
  have hnp := hQ.2.2.1
  refine Ex_iload_n d_to_patternOf_0 rfl ?_
  refine Ex_if_ltZ (z) 21 d_to_patternOf_1 rfl rfl (by omega) (fun hc1 => ?_) (fun hc1 => ?_)
  · refine Ex_aconst_null d_to_patternOf_21 ?_
    refine Ex_areturn0 d_to_patternOf_22 rfl (Or.inl ⟨_, rfl⟩) ?_
    exact ⟨rfl, rfl⟩
  · refine Ex_iload_n d_to_patternOf_4 rfl ?_
    refine Ex_aload_n d_to_patternOf_5 rfl ?_
    refine Ex_getIE d_to_patternOf_6 pf_to_128 rfl (t_0 hs) hP.2.1.1 ?_
    refine Ex_icmp_geZ (z) (((pNp P : Nat) : Int)) 21 d_to_patternOf_9 rfl rfl (nIJ _) (by omega) (by omega) (fun hc9 => ?_) (fun hc9 => ?_)
    · refine Ex_aconst_null d_to_patternOf_21 ?_
      refine Ex_areturn0 d_to_patternOf_22 rfl (Or.inl ⟨_, rfl⟩) ?_
      exact ⟨rfl, rfl⟩
    · exfalso; omega
