/-! The reference: insert, remove, move, undo, pattern, copy. -/
theorem PaM_upd {P : SP} {h h' : mj_H} (hPa : PaM P h) {n : Nat} (hQ : PO n P) (e0 : mI h' 38 12 = mI h 38 12) {p : Nat} (hp : p < pNp P) {l' : List Nat} (e1 : mI h' 48 p = nI l'.length) (e2 : ∀ q, q ≠ p → mI h' 48 q = mI h 48 q) (e3 : ∀ i, i < l'.length → mI h' 47 (60 * p + i) = nI (l'.getD i 0)) (e4 : ∀ q i, q ≠ p → i < 60 → mI h' 47 (60 * q + i) = mI h 47 (60 * q + i)) : PaM (uPat P p l') h' := by
  refine ⟨e0.trans hPa.1, fun q hq => ?_⟩
  have hq : q < pNp P := hq
  by_cases hqp : q = p
  · subst hqp
    have : pPat (uPat P q l') q = l' := by simp [uPat, pPat, va_up]
    rw [this]
    exact ⟨e1, e3⟩
  · have : pPat (uPat P p l') q = pPat P q := by simp [uPat, pPat, va_up, hqp]
    rw [this]
    obtain ⟨a1, a2⟩ := hPa.2 q hq
    have h60 := (hQ.2.2.2.1 q hq).1
    exact ⟨by rw [e2 q hqp]; exact a1, fun i hi => by rw [e4 q i hqp (by omega)]; exact a2 i hi⟩
theorem dnF_get {f : Nat → Int32} {a i : Nat} {l : List Nat} (hf : ∀ x, x < l.length → f (a + x) = nI (l.getD x 0)) (hi : i < l.length) : ∀ k, k < (delL l i).length → dnF f a i (l.length - 1) (a + k) = nI ((delL l i).getD k 0) := by
  intro k hk
  rw [delL_len hi] at hk
  rw [delL_get hi]
  unfold dnF
  by_cases h1 : k < i
  · rw [if_neg (by omega), if_pos h1]
    exact hf k (by omega)
  · rw [if_pos (by omega), if_neg h1, show a + k + 1 = a + (k + 1) by omega]
    exact hf (k + 1) (by omega)
theorem dnF_out {f : Nat → Int32} {a i k x : Nat} (h : x < a ∨ a + k ≤ x) : dnF f a i k x = f x := by
  unfold dnF
  rw [if_neg (by omega)]
theorem upF_get {f : Nat → Int32} {a t x : Nat} {l : List Nat} (hf : ∀ x, x < l.length → f (a + x) = nI (l.getD x 0)) (ht : t ≤ l.length) : ∀ k, k < (insL l t x).length → va_up (upF f a l.length t) (a + t) (nI x) (a + k) = nI ((insL l t x).getD k 0) := by
  intro k hk
  rw [insL_len ht] at hk
  rw [insL_get ht]
  unfold va_up
  by_cases h1 : k < t
  · rw [if_neg (by omega), if_pos h1]
    unfold upF
    rw [if_neg (by omega)]
    exact hf k (by omega)
  · rw [if_neg h1]
    by_cases h2 : k = t
    · rw [if_pos (by omega), if_pos h2]
    · rw [if_neg (by omega), if_neg h2]
      unfold upF
      rw [if_pos (by omega), show a + k - 1 = a + (k - 1) by omega]
      exact hf (k - 1) (by omega)
theorem upF_out {f : Nat → Int32} {a n k x : Nat} (h : x < a ∨ a + n < x) : upF f a n k x = f x := by
  unfold upF
  rw [if_neg (by omega)]
theorem rm_takeRow_L {S : mj_S} {Q : Option Value → mj_H → Prop} {h : mj_H} (hs : HT h) {P : SP} (hPa : PaM P h) {n : Nat} (hQ : PO n P) {p i : Nat} (hp : p < pNp P) (hi : i < (pPat P p).length)
    (kx : Ex S rm_takeRow 39 [some (.ref 38), some (.int (nI (p))), some (.int (nI (i))), some (.int (nI ((pPat P p).length - 1)))] [] (wA h 47 (dnF (mI h 47) (60 * p) i ((pPat P p).length - 1))) Q) : ∀ d k : Nat, k + d = (pPat P p).length - 1 → i ≤ k → Ex S rm_takeRow 2 [some (.ref 38), some (.int (nI (p))), some (.int (nI (i))), some (.int (nI (k)))] [] (wA h 47 (dnF (mI h 47) (60 * p) i (k))) Q := by
  have hlen := (hQ.2.2.2.1 p hp).1
  have hnp := hQ.2.2.1
  intro d
  induction d with
  | zero =>
    intro k hk hik
    obtain rfl : k = (pPat P p).length - 1 := by omega
    refine Ex_iload_n d_rm_takeRow_2 rfl ?_
    refine Ex_iconst d_rm_takeRow_3 ic_1 ?_
    refine Ex_iaddN ((pPat P p).length - 1) (1) d_rm_takeRow_4 rfl rfl ?_
    refine Ex_aload_n d_rm_takeRow_5 rfl ?_
    refine Ex_getR d_rm_takeRow_6 pf_rm_40 rfl (t_38 hs) (r_38_11 hs) ?_
    refine Ex_iload_n d_rm_takeRow_9 rfl ?_
    refine Ex_ialoadN (a := p) d_rm_takeRow_10 (t_48 hs) rfl (by omega) (by decide) (hPa.2 p hp).1 ?_
    refine Ex_icmp_geN (((pPat P p).length - 1) + 1) ((pPat P p).length) 39 d_rm_takeRow_11 rfl rfl rfl (by omega) (by omega) (fun hc11 => ?_) (fun hc11 => ?_)
    · exact kx
    · exfalso; omega
  | succ d ih =>
    intro k hk hik
    refine Ex_iload_n d_rm_takeRow_2 rfl ?_
    refine Ex_iconst d_rm_takeRow_3 ic_1 ?_
    refine Ex_iaddN (k) (1) d_rm_takeRow_4 rfl rfl ?_
    refine Ex_aload_n d_rm_takeRow_5 rfl ?_
    refine Ex_getR d_rm_takeRow_6 pf_rm_40 rfl (t_38 hs) (r_38_11 hs) ?_
    refine Ex_iload_n d_rm_takeRow_9 rfl ?_
    refine Ex_ialoadN (a := p) d_rm_takeRow_10 (t_48 hs) rfl (by omega) (by decide) (hPa.2 p hp).1 ?_
    refine Ex_icmp_geN (k + 1) ((pPat P p).length) 39 d_rm_takeRow_11 rfl rfl rfl (by omega) (by omega) (fun hc11 => ?_) (fun hc11 => ?_)
    · exfalso; omega
    · refine Ex_aload_n d_rm_takeRow_14 rfl ?_
      refine Ex_getR d_rm_takeRow_15 pf_rm_37 rfl (t_38 hs) (r_38_10 hs) ?_
      refine Ex_bipush d_rm_takeRow_18 bp_60 ?_
      refine Ex_iload_n d_rm_takeRow_20 rfl ?_
      refine Ex_imulN (60) (p) d_rm_takeRow_21 rfl rfl ?_
      refine Ex_iload_n d_rm_takeRow_22 rfl ?_
      refine Ex_iaddN (60 * p) (k) d_rm_takeRow_23 rfl rfl ?_
      refine Ex_aload_n d_rm_takeRow_24 rfl ?_
      refine Ex_iload_n d_rm_takeRow_25 rfl ?_
      refine Ex_iload_n d_rm_takeRow_26 rfl ?_
      refine Ex_iconst d_rm_takeRow_27 ic_1 ?_
      refine Ex_iaddN (k) (1) d_rm_takeRow_28 rfl rfl ?_
      refine Ex_pV2 d_rm_takeRow_29 pk_rm_takeRow_175 (t_38 hs) (rm_rowOf_s (h := (wA h 47 (dnF (mI h 47) (60 * p) i (k)))) (p := p) (i := k + 1) hs (by omega) (by omega)) ?_
      refine Ex_iastoreN (a := (60 * p) + k) d_rm_takeRow_32 (t_47 hs) rfl (by omega) (by decide) ?_
      refine Ex_iincN (k) 1 [some (.ref 38), some (.int (nI (p))), some (.int (nI (i))), some (.int (nI (k + 1)))] d_rm_takeRow_33 rfl rfl rfl rfl ?_
      refine Ex_goto 2 d_rm_takeRow_36 rfl ?_
      rw [wI_wA, mj_sI]
      exact (dnF_s (mI h 47) (60 * p) i k hik) ▸ ih (k + 1) (by omega) (by omega)
theorem rm_takeRow_s {S : mj_S} {h : mj_H} (hs : HT h) {P : SP} (hPa : PaM P h) {n : Nat} (hQ : PO n P) {p i : Nat} (hp : p < pNp P) (hi : i < (pPat P p).length) : Cl S rm_takeRow [.ref 38, .int (nI (p)), .int (nI (i))] h (fun r h' => r = none ∧ h' = wI (wA h 47 (dnF (mI h 47) (60 * p) i ((pPat P p).length - 1))) 48 p (nI ((pPat P p).length - 1))) := by
  show Ex S rm_takeRow 0 [some (.ref 38), some (.int (nI (p))), some (.int (nI (i))), none] [] h _
  have hlen := (hQ.2.2.2.1 p hp).1
  have hnp := hQ.2.2.1
  refine Ex_iload_n d_rm_takeRow_0 rfl ?_
  refine Ex_istore_n [some (.ref 38), some (.int (nI (p))), some (.int (nI (i))), some (.int (nI (i)))] d_rm_takeRow_1 (Nat.le_of_ble_eq_true rfl) rfl ?_
  have hz : (wA h 47 (dnF (mI h 47) (60 * p) i (i))) = h := by rw [dnF_0, wA_self]
  rw [show Ex S rm_takeRow 2 [some (.ref 38), some (.int (nI (p))), some (.int (nI (i))), some (.int (nI (i)))] [] h = Ex S rm_takeRow 2 [some (.ref 38), some (.int (nI (p))), some (.int (nI (i))), some (.int (nI (i)))] [] (wA h 47 (dnF (mI h 47) (60 * p) i (i))) from by rw [hz]]
  refine rm_takeRow_L hs hPa hQ hp hi ?_ ((pPat P p).length - 1 - i) i (by omega) (by omega)
  refine Ex_aload_n d_rm_takeRow_39 rfl ?_
  refine Ex_getR d_rm_takeRow_40 pf_rm_40 rfl (t_38 hs) (r_38_11 hs) ?_
  refine Ex_iload_n d_rm_takeRow_43 rfl ?_
  refine Ex_dup2 rfl rfl d_rm_takeRow_44 ?_
  refine Ex_ialoadN (a := p) d_rm_takeRow_45 (t_48 hs) rfl (by omega) (by decide) (hPa.2 p hp).1 ?_
  refine Ex_iconst d_rm_takeRow_46 ic_1 ?_
  refine Ex_isubN ((pPat P p).length) (1) d_rm_takeRow_47 rfl rfl (by omega) ?_
  refine Ex_iastoreN (a := p) d_rm_takeRow_48 (t_48 hs) rfl (by omega) (by decide) ?_
  refine Ex_return d_rm_takeRow_49 rfl ?_
  exact ⟨rfl, rfl⟩
theorem WHi_st : ∀ q ∈ statR, ¬ WHi q.1 q.2.1 := by unfold WHi; decide
theorem WRw_st : ∀ q ∈ statR, ¬ WRw q.1 q.2.1 := by unfold WRw; decide
theorem WPM_st : ∀ q ∈ statR, ¬ WPM q.1 q.2.1 := by unfold WPM; decide
def remP (P : SP) (p i : Nat) : SP := uPat (keepP P p) p (delL (pPat P p) i)
def insP (P : SP) (p i l : Nat) (z : Int) : SP := uPat (newR (keepP P p) l z (fun _ => none)) p (insL (pPat P p) i (pMd P))
def movP (P : SP) (p i t : Nat) : SP := uPat (keepP P p) p (insL (delL (pPat P p) i) t ((pPat P p).getD i 0))
def okRem (P : SP) (p i : Int) : Prop := 0 ≤ p ∧ p < pNp P ∧ 0 ≤ i ∧ i < (pPat P p.toNat).length
def okMov (P : SP) (p i t : Int) : Prop := okRem P p i ∧ 0 ≤ t ∧ t < (pPat P p.toNat).length
def okIns (P : SP) (p i l z : Int) : Prop := 0 ≤ p ∧ p < pNp P ∧ 0 ≤ i ∧ i ≤ (pPat P p.toNat).length ∧ (pPat P p.toNat).length < 60 ∧ 0 ≤ l ∧ l ≤ 60 ∧ -30 ≤ z ∧ z ≤ 30 ∧ pMd P < 6000
/-- an answer that is no, with nothing changed; or yes, with a new state -/
def Ans (c : Prop) (R R' : mj_H → Prop) (W : Nat → Nat → Prop) (h : mj_H) : Option Value → mj_H → Prop := fun r h' => (¬ c ∧ r = some (.int 0) ∧ h' = h) ∨ (c ∧ r = some (.int 1) ∧ R' h' ∧ Fr W h h')
theorem rm_remove_s {S : mj_S} {h : mj_H} (hs : HT h) {P : SP} (hP : PM P h) {n : Nat} (hQ : PO n P) {p i : Int} (hp : -2147483648 ≤ p ∧ p < 2147483648) (hi : -2147483648 ≤ i ∧ i < 2147483648) : Cl S rm_remove [.ref 38, .int (J (p)), .int (J (i))] h (Ans (okRem P p i) (PM P) (PM (remP P p.toNat i.toNat)) WPM h) := by
  show Ex S rm_remove 0 [some (.ref 38), some (.int (J (p))), some (.int (J (i)))] [] h _
  refine Ex_aload_n d_rm_remove_0 rfl ?_
  refine Ex_iload_n d_rm_remove_1 rfl ?_
  refine Ex_pV1 d_rm_remove_2 pk_rm_remove_187 (t_38 hs) (rm_isPattern_s hs hP.2.1 hQ.2.2.1 hp) ?_
  refine Ex_if_eqB (decide (0 ≤ p ∧ p < pNp P)) 22 d_rm_remove_5 rfl rfl (fun hc5 => ?_) (fun hc5 => ?_)
  · rw [decide_eq_false_iff_not] at hc5
    refine Ex_iconst d_rm_remove_22 ic_0 ?_
    refine Ex_zreturn d_rm_remove_23 rfl (by decide) ?_
    exact Or.inl ⟨fun z => by (try unfold okRem at z); (try unfold okRem at z); (try simp only [Int.toNat_natCast] at z); omega, rfl, rfl⟩
  · rw [decide_eq_true_eq] at hc5
    obtain ⟨a, rfl⟩ : ∃ a : Nat, p = (a : Int) := ⟨p.toNat, by omega⟩
    simp only [← nIJ]
    have hlen := (hQ.2.2.2.1 a (by omega)).1
    have hnp := hQ.2.2.1
    have hmd : pMd P ≤ 6000 := hQ.1
    refine Ex_iload_n d_rm_remove_8 rfl ?_
    refine Ex_if_ltZ (i) 22 d_rm_remove_9 rfl rfl (by omega) (fun hc9 => ?_) (fun hc9 => ?_)
    · refine Ex_iconst d_rm_remove_22 ic_0 ?_
      refine Ex_zreturn d_rm_remove_23 rfl (by decide) ?_
      exact Or.inl ⟨fun z => by (try unfold okRem at z); (try unfold okRem at z); (try simp only [Int.toNat_natCast] at z); omega, rfl, rfl⟩
    · refine Ex_iload_n d_rm_remove_12 rfl ?_
      refine Ex_aload_n d_rm_remove_13 rfl ?_
      refine Ex_getR d_rm_remove_14 pf_rm_40 rfl (t_38 hs) (r_38_11 hs) ?_
      refine Ex_iload_n d_rm_remove_17 rfl ?_
      refine Ex_ialoadN (a := a) d_rm_remove_18 (t_48 hs) rfl (by omega) (by decide) (hP.2.1.2 a (by omega)).1 ?_
      refine Ex_icmp_ltZ (i) ((((pPat P a).length : Nat) : Int)) 24 d_rm_remove_19 rfl rfl (nIJ _) (by omega) (by omega) (fun hc19 => ?_) (fun hc19 => ?_)
      · obtain ⟨b, rfl⟩ : ∃ b : Nat, i = (b : Int) := ⟨i.toNat, by omega⟩
        simp only [← nIJ]
        refine Ex_aload_n d_rm_remove_24 rfl ?_
        refine Ex_iload_n d_rm_remove_25 rfl ?_
        refine Ex_cV1 d_rm_remove_26 pk_rm_remove_190 (t_38 hs) (rm_keep_s hs hP hQ (show a < pNp P by omega)) ?_
        rintro r h1 ⟨rfl, hH1, hF1⟩
        have hs1 : HT h1 := hF1.ht hs WHi_st
        have hPa1 : PaM P h1 := PaM_fr hs hF1 (by intro a k z; unfold WPa at z; unfold WHi; omega) hP.2.1
        have hRw1 : RwM P h1 := RwM_fr hs hF1 (by intro a k z; unfold WRw at z; unfold WHi; omega) hP.1
        show Ex S rm_remove 29 [some (.ref 38), some (.int (nI (a))), some (.int (nI (b)))] [] h1 _
        refine Ex_aload_n d_rm_remove_29 rfl ?_
        refine Ex_iload_n d_rm_remove_30 rfl ?_
        refine Ex_iload_n d_rm_remove_31 rfl ?_
        refine Ex_cV2 d_rm_remove_32 pk_rm_remove_197 (t_38 hs1) (rm_takeRow_s hs1 hPa1 hQ (show a < pNp P by omega) (show b < (pPat P a).length by omega)) ?_
        rintro r h2 ⟨rfl, rfl⟩
        show Ex S rm_remove 35 [some (.ref 38), some (.int (nI (a))), some (.int (nI (b)))] [] (wI (wA h1 47 (dnF (mI h1 47) (60 * a) b ((pPat P a).length - 1))) 48 a (nI ((pPat P a).length - 1))) _
        refine Ex_iconst d_rm_remove_35 ic_1 ?_
        refine Ex_zreturn d_rm_remove_36 rfl (by decide) ?_
        refine Or.inr ⟨by unfold okRem; simp only [Int.toNat_natCast]; omega, rfl, ?_, ?_⟩
        · simp only [Int.toNat_natCast]
          refine ⟨hRw1, ?_, hH1⟩
          have hd := delL_len (l := pPat P a) (i := b) (by omega)
          refine PaM_upd (p := a) (l' := delL (pPat P a) b) hPa1 hQ ?_ (by omega) ?_ ?_ ?_ ?_
          · rfl
          · rw [hd]; simp [mI_wI]
          · intro q hq; simp [mI_wI, mI_wA, hq]
          · exact dnF_get (hPa1.2 a (by omega)).2 (by omega)
          · intro q i hq hi
            exact dnF_out (by omega)
        · refine Fr.sI (Fr.sA (hF1.mono (fun a k z => ?_)) (fun k hk => ?_)) ?_
          · unfold WHi at z; unfold WPM; omega
          · exact absurd (show WPM 47 k by unfold WPM; omega) hk
          · unfold WPM; omega
      · refine Ex_iconst d_rm_remove_22 ic_0 ?_
        refine Ex_zreturn d_rm_remove_23 rfl (by decide) ?_
        exact Or.inl ⟨fun z => by (try unfold okRem at z); (try unfold okRem at z); (try simp only [Int.toNat_natCast] at z); omega, rfl, rfl⟩
theorem rm_insert_L {S : mj_S} {Q : Option Value → mj_H → Prop} {h : mj_H} (hs : HT h) {a b c m r : Nat} {z : Int} (ha : a < 16) (hm : m ≤ 59) (hb : b ≤ m)
    (kx : Ex S rm_insert 115 [some (.ref 38), some (.int (nI (a))), some (.int (nI (b))), some (.int (nI (c))), some (.int (J (z))), some (.int (nI (b)))] [] (wA h 47 (upF (mI h 47) (60 * a) m (b))) Q) : ∀ d k : Nat, k = b + d → k ≤ m → Ex S rm_insert 82 [some (.ref 38), some (.int (nI (a))), some (.int (nI (b))), some (.int (nI (c))), some (.int (J (z))), some (.int (nI (k)))] [] (wA h 47 (upF (mI h 47) (60 * a) m (k))) Q := by
  intro d
  induction d with
  | zero =>
    intro k hk hkm
    obtain rfl : k = b := by omega
    refine Ex_iload d_rm_insert_82 rfl ?_
    refine Ex_iload_n d_rm_insert_84 rfl ?_
    refine Ex_icmp_leN (k) (k) 115 d_rm_insert_85 rfl rfl rfl (by omega) (by omega) (fun hc85 => ?_) (fun hc85 => ?_)
    · exact kx
    · exfalso; omega
  | succ d ih =>
    intro k hk hkm
    obtain ⟨j, rfl⟩ : ∃ j, k = j + 1 := ⟨k - 1, by omega⟩
    refine Ex_iload d_rm_insert_82 rfl ?_
    refine Ex_iload_n d_rm_insert_84 rfl ?_
    refine Ex_icmp_leN (j + 1) (b) 115 d_rm_insert_85 rfl rfl rfl (by omega) (by omega) (fun hc85 => ?_) (fun hc85 => ?_)
    · exfalso; omega
    · refine Ex_aload_n d_rm_insert_88 rfl ?_
      refine Ex_getR d_rm_insert_89 pf_rm_37 rfl (t_38 hs) (r_38_10 hs) ?_
      refine Ex_bipush d_rm_insert_92 bp_60 ?_
      refine Ex_iload_n d_rm_insert_94 rfl ?_
      refine Ex_imulN (60) (a) d_rm_insert_95 rfl rfl ?_
      refine Ex_iload d_rm_insert_96 rfl ?_
      refine Ex_iaddN (60 * a) (j + 1) d_rm_insert_98 rfl rfl ?_
      refine Ex_aload_n d_rm_insert_99 rfl ?_
      refine Ex_iload_n d_rm_insert_100 rfl ?_
      refine Ex_iload d_rm_insert_101 rfl ?_
      refine Ex_iconst d_rm_insert_103 ic_1 ?_
      refine Ex_isubN (j + 1) (1) d_rm_insert_104 rfl rfl (by omega) ?_
      rw [show ((nI ((j + 1) - 1)) : Int32) = (nI (j)) from congrArg nI (by omega)]
      refine Ex_pV2 d_rm_insert_105 pk_rm_insert_175 (t_38 hs) (rm_rowOf_s (h := (wA h 47 (upF (mI h 47) (60 * a) m (j + 1)))) (p := a) (i := j) hs (by omega) (by omega)) ?_
      refine Ex_iastoreN (a := (60 * a) + (j + 1)) d_rm_insert_108 (t_47 hs) rfl (by omega) (by decide) ?_
      refine Ex_iincZ (((j + 1 : Nat) : Int)) (-1) [some (.ref 38), some (.int (nI (a))), some (.int (nI (b))), some (.int (nI (c))), some (.int (J (z))), some (.int (J ((((j + 1 : Nat) : Int)) + (-1))))] d_rm_insert_109 rfl (nIJ _) (by decide) rfl ?_
      rw [show ((J ((((j + 1 : Nat) : Int)) + (-1))) : Int32) = (nI (j)) from by rw [nIJ]; exact congrArg J (by omega)]
      refine Ex_goto 82 d_rm_insert_112 rfl ?_
      rw [wI_wA, mj_sI]
      exact (upF_s (mI h 47) (60 * a) m j (by omega)) ▸ ih j (by omega) (by omega)
theorem rm_move_L {S : mj_S} {Q : Option Value → mj_H → Prop} {h : mj_H} (hs : HT h) {a b c m r : Nat} {z : Int} (ha : a < 16) (hm : m ≤ 59) (hb : b ≤ m)
    (kx : Ex S rm_move 98 [some (.ref 38), some (.int (nI (a))), some (.int (nI (c))), some (.int (nI (b))), some (.int (nI (r))), some (.int (nI (b)))] [] (wA h 47 (upF (mI h 47) (60 * a) m (b))) Q) : ∀ d k : Nat, k = b + d → k ≤ m → Ex S rm_move 65 [some (.ref 38), some (.int (nI (a))), some (.int (nI (c))), some (.int (nI (b))), some (.int (nI (r))), some (.int (nI (k)))] [] (wA h 47 (upF (mI h 47) (60 * a) m (k))) Q := by
  intro d
  induction d with
  | zero =>
    intro k hk hkm
    obtain rfl : k = b := by omega
    refine Ex_iload d_rm_move_65 rfl ?_
    refine Ex_iload_n d_rm_move_67 rfl ?_
    refine Ex_icmp_leN (k) (k) 98 d_rm_move_68 rfl rfl rfl (by omega) (by omega) (fun hc68 => ?_) (fun hc68 => ?_)
    · exact kx
    · exfalso; omega
  | succ d ih =>
    intro k hk hkm
    obtain ⟨j, rfl⟩ : ∃ j, k = j + 1 := ⟨k - 1, by omega⟩
    refine Ex_iload d_rm_move_65 rfl ?_
    refine Ex_iload_n d_rm_move_67 rfl ?_
    refine Ex_icmp_leN (j + 1) (b) 98 d_rm_move_68 rfl rfl rfl (by omega) (by omega) (fun hc68 => ?_) (fun hc68 => ?_)
    · exfalso; omega
    · refine Ex_aload_n d_rm_move_71 rfl ?_
      refine Ex_getR d_rm_move_72 pf_rm_37 rfl (t_38 hs) (r_38_10 hs) ?_
      refine Ex_bipush d_rm_move_75 bp_60 ?_
      refine Ex_iload_n d_rm_move_77 rfl ?_
      refine Ex_imulN (60) (a) d_rm_move_78 rfl rfl ?_
      refine Ex_iload d_rm_move_79 rfl ?_
      refine Ex_iaddN (60 * a) (j + 1) d_rm_move_81 rfl rfl ?_
      refine Ex_aload_n d_rm_move_82 rfl ?_
      refine Ex_iload_n d_rm_move_83 rfl ?_
      refine Ex_iload d_rm_move_84 rfl ?_
      refine Ex_iconst d_rm_move_86 ic_1 ?_
      refine Ex_isubN (j + 1) (1) d_rm_move_87 rfl rfl (by omega) ?_
      rw [show ((nI ((j + 1) - 1)) : Int32) = (nI (j)) from congrArg nI (by omega)]
      refine Ex_pV2 d_rm_move_88 pk_rm_move_175 (t_38 hs) (rm_rowOf_s (h := (wA h 47 (upF (mI h 47) (60 * a) m (j + 1)))) (p := a) (i := j) hs (by omega) (by omega)) ?_
      refine Ex_iastoreN (a := (60 * a) + (j + 1)) d_rm_move_91 (t_47 hs) rfl (by omega) (by decide) ?_
      refine Ex_iincZ (((j + 1 : Nat) : Int)) (-1) [some (.ref 38), some (.int (nI (a))), some (.int (nI (c))), some (.int (nI (b))), some (.int (nI (r))), some (.int (J ((((j + 1 : Nat) : Int)) + (-1))))] d_rm_move_92 rfl (nIJ _) (by decide) rfl ?_
      rw [show ((J ((((j + 1 : Nat) : Int)) + (-1))) : Int32) = (nI (j)) from by rw [nIJ]; exact congrArg J (by omega)]
      refine Ex_goto 65 d_rm_move_95 rfl ?_
      rw [wI_wA, mj_sI]
      exact (upF_s (mI h 47) (60 * a) m j (by omega)) ▸ ih j (by omega) (by omega)
theorem rm_insert_s {S : mj_S} {h : mj_H} (hs : HT h) {P : SP} (hP : PM P h) {n : Nat} (hQ : PO n P) {p i l z : Int} (hp : -2147483648 ≤ p ∧ p < 2147483648) (hi : -2147483648 ≤ i ∧ i < 2147483648) (hl : -2147483648 ≤ l ∧ l < 2147483648) (hz : -2147483648 ≤ z ∧ z < 2147483648) : Cl S rm_insert [.ref 38, .int (J (p)), .int (J (i)), .int (J (l)), .int (J (z))] h (Ans (okIns P p i l z) (PM P) (PM (insP P p.toNat i.toNat l.toNat z)) WPM h) := by
  show Ex S rm_insert 0 [some (.ref 38), some (.int (J (p))), some (.int (J (i))), some (.int (J (l))), some (.int (J (z))), none] [] h _
  refine Ex_aload_n d_rm_insert_0 rfl ?_
  refine Ex_iload_n d_rm_insert_1 rfl ?_
  refine Ex_pV1 d_rm_insert_2 pk_rm_insert_187 (t_38 hs) (rm_isPattern_s hs hP.2.1 hQ.2.2.1 hp) ?_
  refine Ex_if_eqB (decide (0 ≤ p ∧ p < pNp P)) 67 d_rm_insert_5 rfl rfl (fun hc5 => ?_) (fun hc5 => ?_)
  · rw [decide_eq_false_iff_not] at hc5
    refine Ex_iconst d_rm_insert_67 ic_0 ?_
    refine Ex_zreturn d_rm_insert_68 rfl (by decide) ?_
    exact Or.inl ⟨fun z => by (try unfold okIns at z); (try unfold okRem at z); (try simp only [Int.toNat_natCast] at z); omega, rfl, rfl⟩
  · rw [decide_eq_true_eq] at hc5
    obtain ⟨a, rfl⟩ : ∃ a : Nat, p = (a : Int) := ⟨p.toNat, by omega⟩
    simp only [← nIJ]
    have hlen := (hQ.2.2.2.1 a (by omega)).1
    have hnp := hQ.2.2.1
    have hmd : pMd P ≤ 6000 := hQ.1
    refine Ex_iload_n d_rm_insert_8 rfl ?_
    refine Ex_if_ltZ (i) 67 d_rm_insert_9 rfl rfl (by omega) (fun hc9 => ?_) (fun hc9 => ?_)
    · refine Ex_iconst d_rm_insert_67 ic_0 ?_
      refine Ex_zreturn d_rm_insert_68 rfl (by decide) ?_
      exact Or.inl ⟨fun z => by (try unfold okIns at z); (try unfold okRem at z); (try simp only [Int.toNat_natCast] at z); omega, rfl, rfl⟩
    · refine Ex_iload_n d_rm_insert_12 rfl ?_
      refine Ex_aload_n d_rm_insert_13 rfl ?_
      refine Ex_getR d_rm_insert_14 pf_rm_40 rfl (t_38 hs) (r_38_11 hs) ?_
      refine Ex_iload_n d_rm_insert_17 rfl ?_
      refine Ex_ialoadN (a := a) d_rm_insert_18 (t_48 hs) rfl (by omega) (by decide) (hP.2.1.2 a (by omega)).1 ?_
      refine Ex_icmp_gtZ (i) ((((pPat P a).length : Nat) : Int)) 67 d_rm_insert_19 rfl rfl (nIJ _) (by omega) (by omega) (fun hc19 => ?_) (fun hc19 => ?_)
      · refine Ex_iconst d_rm_insert_67 ic_0 ?_
        refine Ex_zreturn d_rm_insert_68 rfl (by decide) ?_
        exact Or.inl ⟨fun z => by (try unfold okIns at z); (try unfold okRem at z); (try simp only [Int.toNat_natCast] at z); omega, rfl, rfl⟩
      · refine Ex_aload_n d_rm_insert_22 rfl ?_
        refine Ex_getR d_rm_insert_23 pf_rm_40 rfl (t_38 hs) (r_38_11 hs) ?_
        refine Ex_iload_n d_rm_insert_26 rfl ?_
        refine Ex_ialoadN (a := a) d_rm_insert_27 (t_48 hs) rfl (by omega) (by decide) (hP.2.1.2 a (by omega)).1 ?_
        refine Ex_bipush d_rm_insert_28 bp_60 ?_
        refine Ex_icmp_eqN ((pPat P a).length) (60) 67 d_rm_insert_30 rfl rfl rfl (by omega) (by omega) (fun hc30 => ?_) (fun hc30 => ?_)
        · refine Ex_iconst d_rm_insert_67 ic_0 ?_
          refine Ex_zreturn d_rm_insert_68 rfl (by decide) ?_
          exact Or.inl ⟨fun z => by (try unfold okIns at z); (try unfold okRem at z); (try simp only [Int.toNat_natCast] at z); omega, rfl, rfl⟩
        · refine Ex_iload_n d_rm_insert_33 rfl ?_
          refine Ex_if_ltZ (l) 67 d_rm_insert_34 rfl rfl (by omega) (fun hc34 => ?_) (fun hc34 => ?_)
          · refine Ex_iconst d_rm_insert_67 ic_0 ?_
            refine Ex_zreturn d_rm_insert_68 rfl (by decide) ?_
            exact Or.inl ⟨fun z => by (try unfold okIns at z); (try unfold okRem at z); (try simp only [Int.toNat_natCast] at z); omega, rfl, rfl⟩
          · refine Ex_iload_n d_rm_insert_37 rfl ?_
            refine Ex_bipush d_rm_insert_38 bp_60 ?_
            refine Ex_icmp_gtZ (l) ((60)) 67 d_rm_insert_40 rfl rfl (by decide) (by omega) (by omega) (fun hc40 => ?_) (fun hc40 => ?_)
            · refine Ex_iconst d_rm_insert_67 ic_0 ?_
              refine Ex_zreturn d_rm_insert_68 rfl (by decide) ?_
              exact Or.inl ⟨fun z => by (try unfold okIns at z); (try unfold okRem at z); (try simp only [Int.toNat_natCast] at z); omega, rfl, rfl⟩
            · refine Ex_iload d_rm_insert_43 rfl ?_
              refine Ex_bipush d_rm_insert_45 bp_m30 ?_
              refine Ex_icmp_ltZ (z) ((-30)) 67 d_rm_insert_47 rfl rfl (by decide) (by omega) (by omega) (fun hc47 => ?_) (fun hc47 => ?_)
              · refine Ex_iconst d_rm_insert_67 ic_0 ?_
                refine Ex_zreturn d_rm_insert_68 rfl (by decide) ?_
                exact Or.inl ⟨fun z => by (try unfold okIns at z); (try unfold okRem at z); (try simp only [Int.toNat_natCast] at z); omega, rfl, rfl⟩
              · refine Ex_iload d_rm_insert_50 rfl ?_
                refine Ex_bipush d_rm_insert_52 bp_30 ?_
                refine Ex_icmp_gtZ (z) ((30)) 67 d_rm_insert_54 rfl rfl (by decide) (by omega) (by omega) (fun hc54 => ?_) (fun hc54 => ?_)
                · refine Ex_iconst d_rm_insert_67 ic_0 ?_
                  refine Ex_zreturn d_rm_insert_68 rfl (by decide) ?_
                  exact Or.inl ⟨fun z => by (try unfold okIns at z); (try unfold okRem at z); (try simp only [Int.toNat_natCast] at z); omega, rfl, rfl⟩
                · refine Ex_aload_n d_rm_insert_57 rfl ?_
                  refine Ex_getIE d_rm_insert_58 pf_rm_172 rfl (t_38 hs) hP.1.1 ?_
                  refine Ex_sipush d_rm_insert_61 sp_6000 ?_
                  refine Ex_icmp_neN (pMd P) (6000) 69 d_rm_insert_64 rfl rfl rfl (by omega) (by omega) (fun hc64 => ?_) (fun hc64 => ?_)
                  · obtain ⟨b, rfl⟩ : ∃ b : Nat, i = (b : Int) := ⟨i.toNat, by omega⟩
                    obtain ⟨c, rfl⟩ : ∃ c : Nat, l = (c : Int) := ⟨l.toNat, by omega⟩
                    simp only [← nIJ]
                    refine Ex_aload_n d_rm_insert_69 rfl ?_
                    refine Ex_iload_n d_rm_insert_70 rfl ?_
                    refine Ex_cV1 d_rm_insert_71 pk_rm_insert_190 (t_38 hs) (rm_keep_s hs hP hQ (show a < pNp P by omega)) ?_
                    rintro r h1 ⟨rfl, hH1, hF1⟩
                    have hs1 : HT h1 := hF1.ht hs WHi_st
                    have hPa1 : PaM P h1 := PaM_fr hs hF1 (by intro a k z; unfold WPa at z; unfold WHi; omega) hP.2.1
                    have hRw1 : RwM P h1 := RwM_fr hs hF1 (by intro a k z; unfold WRw at z; unfold WHi; omega) hP.1
                    show Ex S rm_insert 74 [some (.ref 38), some (.int (nI (a))), some (.int (nI (b))), some (.int (nI (c))), some (.int (J (z))), none] [] h1 _
                    refine Ex_aload_n d_rm_insert_74 rfl ?_
                    refine Ex_getR d_rm_insert_75 pf_rm_40 rfl (t_38 hs1) (r_38_11 hs1) ?_
                    refine Ex_iload_n d_rm_insert_78 rfl ?_
                    refine Ex_ialoadN (a := a) d_rm_insert_79 (t_48 hs1) rfl (by omega) (by decide) (hPa1.2 a (by omega)).1 ?_
                    refine Ex_istore [some (.ref 38), some (.int (nI (a))), some (.int (nI (b))), some (.int (nI (c))), some (.int (J (z))), some (.int (nI ((pPat P a).length)))] d_rm_insert_80 (Nat.le_of_ble_eq_true rfl) rfl ?_
                    rw [show Ex S rm_insert 82 [some (.ref 38), some (.int (nI (a))), some (.int (nI (b))), some (.int (nI (c))), some (.int (J (z))), some (.int (nI ((pPat P a).length)))] [] h1 = Ex S rm_insert 82 [some (.ref 38), some (.int (nI (a))), some (.int (nI (b))), some (.int (nI (c))), some (.int (J (z))), some (.int (nI ((pPat P a).length)))] [] (wA h1 47 (upF (mI h1 47) (60 * a) (pPat P a).length (pPat P a).length)) from by rw [upF_n, wA_self]]
                    refine rm_insert_L (r := 0) hs1 (by omega) (by omega) (by omega) ?_ ((pPat P a).length - b) (pPat P a).length (by omega) (by omega)
                    refine Ex_aload_n d_rm_insert_115 rfl ?_
                    refine Ex_getR d_rm_insert_116 pf_rm_37 rfl (t_38 hs1) (r_38_10 hs1) ?_
                    refine Ex_bipush d_rm_insert_119 bp_60 ?_
                    refine Ex_iload_n d_rm_insert_121 rfl ?_
                    refine Ex_imulN (60) (a) d_rm_insert_122 rfl rfl ?_
                    refine Ex_iload_n d_rm_insert_123 rfl ?_
                    refine Ex_iaddN (60 * a) (b) d_rm_insert_124 rfl rfl ?_
                    refine Ex_aload_n d_rm_insert_125 rfl ?_
                    refine Ex_iload_n d_rm_insert_126 rfl ?_
                    refine Ex_iload d_rm_insert_127 rfl ?_
                    refine Ex_cV2 d_rm_insert_129 pk_rm_insert_194 (t_38 hs1) (rm_newRow_s (h := (wA h1 47 (upF (mI h1 47) (60 * a) (pPat P a).length b))) hs1 hRw1 hQ (by omega) (show c ≤ 60 by omega)) ?_
                    rintro r h2 ⟨rfl, hRw2, hF2⟩
                    have hs2 : HT h2 := hF2.ht (h := (wA h1 47 (upF (mI h1 47) (60 * a) (pPat P a).length b))) hs1 WRw_st
                    have hN2 := HT_n (h := (wA h1 47 (upF (mI h1 47) (60 * a) (pPat P a).length b))) hs1
                    have hn48 : mI h2 48 a = nI (pPat P a).length := (hF2.2 48 a (by omega) (by unfold WRw; omega)).1.trans (hPa1.2 a (by omega)).1
                    show Ex S rm_insert 132 [some (.ref 38), some (.int (nI (a))), some (.int (nI (b))), some (.int (nI (c))), some (.int (J (z))), some (.int (nI (b)))] [.int (nI (pMd P)), .int (nI ((60 * a) + b)), .ref 47] h2 _
                    refine Ex_iastoreN (a := (60 * a) + b) d_rm_insert_132 (t_47 hs2) rfl (by omega) (by decide) ?_
                    refine Ex_aload_n d_rm_insert_133 rfl ?_
                    refine Ex_getR d_rm_insert_134 pf_rm_40 rfl (t_38 hs2) (r_38_11 hs2) ?_
                    refine Ex_iload_n d_rm_insert_137 rfl ?_
                    refine Ex_dup2 rfl rfl d_rm_insert_138 ?_
                    refine Ex_ialoadN (a := a) d_rm_insert_139 (t_48 hs2) rfl (by omega) (by decide) hn48 ?_
                    refine Ex_iconst d_rm_insert_140 ic_1 ?_
                    refine Ex_iaddN ((pPat P a).length) (1) d_rm_insert_141 rfl rfl ?_
                    refine Ex_iastoreN (a := a) d_rm_insert_142 (t_48 hs2) rfl (by omega) (by decide) ?_
                    refine Ex_iconst d_rm_insert_143 ic_1 ?_
                    refine Ex_zreturn d_rm_insert_144 rfl (by decide) ?_
                    refine Or.inr ⟨by unfold okIns; simp only [Int.toNat_natCast]; omega, rfl, ?_, ?_⟩
                    · simp only [Int.toNat_natCast]
                      have e47 : mI h2 47 = upF (mI h1 47) (60 * a) (pPat P a).length b := funext fun k => (hF2.2 47 k (by omega) (by unfold WRw; omega)).1
                      have e48 : ∀ q, mI h2 48 q = mI h1 48 q := fun q => (hF2.2 48 q (by omega) (by unfold WRw; omega)).1
                      have e12 : mI h2 38 12 = mI h1 38 12 := (hF2.2 38 12 (by omega) (by unfold WRw; omega)).1
                      have hil := insL_len (l := pPat P a) (i := b) (x := pMd P) (by omega)
                      refine ⟨hRw2, PaM_upd (p := a) hPa1 hQ ?_ (by omega) ?_ ?_ ?_ ?_, ?_⟩
                      · simp [mI_wI]; exact e12
                      · rw [hil]; simp [mI_wI]
                      · intro q hq; simp [mI_wI, hq]; exact e48 q
                      · intro i hi
                        have := upF_get (x := pMd P) (hPa1.2 a (by omega)).2 (show b ≤ (pPat P a).length by omega) i hi
                        rw [← this, ← e47]
                        rfl
                      · intro q i hq hi
                        have := upF_out (f := mI h1 47) (a := 60 * a) (n := (pPat P a).length) (k := b) (x := 60 * q + i) (by omega)
                        rw [← this, ← e47]
                        show va_up (mI h2 47) (60 * a + b) (nI (pMd P)) (60 * q + i) = _
                        unfold va_up
                        rw [if_neg (by omega)]
                      · refine HiM_fr (W := fun a k => WRw a k ∨ WPa a k) hs1 (Fr.sI (Fr.sI ((Fr.sA Fr.rf (fun k hk => absurd (Or.inr (show WPa 47 k by unfold WPa; omega)) hk)).tr (hF2.mono (fun a k z => Or.inl z))) (Or.inr (by unfold WPa; omega))) (Or.inr (by unfold WPa; omega))) ?_ hH1
                        intro a k z; unfold WHi at z; unfold WRw WPa; omega
                    · refine Fr.sI (Fr.sI ((Fr.sA (hF1.mono (fun a k z => ?_)) (fun k hk => ?_)).tr (hF2.mono (fun a k z => ?_))) ?_) ?_
                      · unfold WHi at z; unfold WPM; omega
                      · exact absurd (show WPM 47 k by unfold WPM; omega) hk
                      · unfold WRw at z; unfold WPM; omega
                      · unfold WPM; omega
                      · unfold WPM; omega
                  · refine Ex_iconst d_rm_insert_67 ic_0 ?_
                    refine Ex_zreturn d_rm_insert_68 rfl (by decide) ?_
                    exact Or.inl ⟨fun z => by (try unfold okIns at z); (try unfold okRem at z); (try simp only [Int.toNat_natCast] at z); omega, rfl, rfl⟩
