/-! The reference: move, pattern, copy, undo. -/
theorem rm_move_s {S : mj_S} {h : mj_H} (hs : HT h) {P : SP} (hP : PM P h) {n : Nat} (hQ : PO n P) {p i t : Int} (hp : -2147483648 ≤ p ∧ p < 2147483648) (hi : -2147483648 ≤ i ∧ i < 2147483648) (ht : -2147483648 ≤ t ∧ t < 2147483648) : Cl S rm_move [.ref 38, .int (J (p)), .int (J (i)), .int (J (t))] h (Ans (okMov P p i t) (PM P) (PM (movP P p.toNat i.toNat t.toNat)) WPM h) := by
  show Ex S rm_move 0 [some (.ref 38), some (.int (J (p))), some (.int (J (i))), some (.int (J (t))), none, none] [] h _
  refine Ex_aload_n d_rm_move_0 rfl ?_
  refine Ex_iload_n d_rm_move_1 rfl ?_
  refine Ex_pV1 d_rm_move_2 pk_rm_move_187 (t_38 hs) (rm_isPattern_s hs hP.2.1 hQ.2.2.1 hp) ?_
  refine Ex_if_eqB (decide (0 ≤ p ∧ p < pNp P)) 36 d_rm_move_5 rfl rfl (fun hc5 => ?_) (fun hc5 => ?_)
  · rw [decide_eq_false_iff_not] at hc5
    refine Ex_iconst d_rm_move_36 ic_0 ?_
    refine Ex_zreturn d_rm_move_37 rfl (by decide) ?_
    exact Or.inl ⟨fun z => by (try unfold okMov at z); (try unfold okRem at z); (try simp only [Int.toNat_natCast] at z); omega, rfl, rfl⟩
  · rw [decide_eq_true_eq] at hc5
    obtain ⟨a, rfl⟩ : ∃ a : Nat, p = (a : Int) := ⟨p.toNat, by omega⟩
    simp only [← nIJ]
    have hlen := (hQ.2.2.2.1 a (by omega)).1
    have hnp := hQ.2.2.1
    have hmd : pMd P ≤ 6000 := hQ.1
    refine Ex_iload_n d_rm_move_8 rfl ?_
    refine Ex_if_ltZ (i) 36 d_rm_move_9 rfl rfl (by omega) (fun hc9 => ?_) (fun hc9 => ?_)
    · refine Ex_iconst d_rm_move_36 ic_0 ?_
      refine Ex_zreturn d_rm_move_37 rfl (by decide) ?_
      exact Or.inl ⟨fun z => by (try unfold okMov at z); (try unfold okRem at z); (try simp only [Int.toNat_natCast] at z); omega, rfl, rfl⟩
    · refine Ex_iload_n d_rm_move_12 rfl ?_
      refine Ex_aload_n d_rm_move_13 rfl ?_
      refine Ex_getR d_rm_move_14 pf_rm_40 rfl (t_38 hs) (r_38_11 hs) ?_
      refine Ex_iload_n d_rm_move_17 rfl ?_
      refine Ex_ialoadN (a := a) d_rm_move_18 (t_48 hs) rfl (by omega) (by decide) (hP.2.1.2 a (by omega)).1 ?_
      refine Ex_icmp_geZ (i) ((((pPat P a).length : Nat) : Int)) 36 d_rm_move_19 rfl rfl (nIJ _) (by omega) (by omega) (fun hc19 => ?_) (fun hc19 => ?_)
      · refine Ex_iconst d_rm_move_36 ic_0 ?_
        refine Ex_zreturn d_rm_move_37 rfl (by decide) ?_
        exact Or.inl ⟨fun z => by (try unfold okMov at z); (try unfold okRem at z); (try simp only [Int.toNat_natCast] at z); omega, rfl, rfl⟩
      · refine Ex_iload_n d_rm_move_22 rfl ?_
        refine Ex_if_ltZ (t) 36 d_rm_move_23 rfl rfl (by omega) (fun hc23 => ?_) (fun hc23 => ?_)
        · refine Ex_iconst d_rm_move_36 ic_0 ?_
          refine Ex_zreturn d_rm_move_37 rfl (by decide) ?_
          exact Or.inl ⟨fun z => by (try unfold okMov at z); (try unfold okRem at z); (try simp only [Int.toNat_natCast] at z); omega, rfl, rfl⟩
        · refine Ex_iload_n d_rm_move_26 rfl ?_
          refine Ex_aload_n d_rm_move_27 rfl ?_
          refine Ex_getR d_rm_move_28 pf_rm_40 rfl (t_38 hs) (r_38_11 hs) ?_
          refine Ex_iload_n d_rm_move_31 rfl ?_
          refine Ex_ialoadN (a := a) d_rm_move_32 (t_48 hs) rfl (by omega) (by decide) (hP.2.1.2 a (by omega)).1 ?_
          refine Ex_icmp_ltZ (t) ((((pPat P a).length : Nat) : Int)) 38 d_rm_move_33 rfl rfl (nIJ _) (by omega) (by omega) (fun hc33 => ?_) (fun hc33 => ?_)
          · obtain ⟨b, rfl⟩ : ∃ b : Nat, i = (b : Int) := ⟨i.toNat, by omega⟩
            obtain ⟨c, rfl⟩ : ∃ c : Nat, t = (c : Int) := ⟨t.toNat, by omega⟩
            simp only [← nIJ]
            refine Ex_aload_n d_rm_move_38 rfl ?_
            refine Ex_iload_n d_rm_move_39 rfl ?_
            refine Ex_cV1 d_rm_move_40 pk_rm_move_190 (t_38 hs) (rm_keep_s hs hP hQ (show a < pNp P by omega)) ?_
            rintro r h1 ⟨rfl, hH1, hF1⟩
            have hs1 : HT h1 := hF1.ht hs WHi_st
            have hPa1 : PaM P h1 := PaM_fr hs hF1 (by intro a k z; unfold WPa at z; unfold WHi; omega) hP.2.1
            have hRw1 : RwM P h1 := RwM_fr hs hF1 (by intro a k z; unfold WRw at z; unfold WHi; omega) hP.1
            show Ex S rm_move 43 [some (.ref 38), some (.int (nI (a))), some (.int (nI (b))), some (.int (nI (c))), none, none] [] h1 _
            refine Ex_aload_n d_rm_move_43 rfl ?_
            refine Ex_iload_n d_rm_move_44 rfl ?_
            refine Ex_iload_n d_rm_move_45 rfl ?_
            refine Ex_pV2 d_rm_move_46 pk_rm_move_175 (t_38 hs1) (rm_rowOf_p hs1 hPa1 hQ (show a < pNp P by omega) (show b < (pPat P a).length by omega)) ?_
            refine Ex_istore [some (.ref 38), some (.int (nI (a))), some (.int (nI (b))), some (.int (nI (c))), some (.int (nI ((pPat P a).getD b 0))), none] d_rm_move_49 (Nat.le_of_ble_eq_true rfl) rfl ?_
            refine Ex_aload_n d_rm_move_51 rfl ?_
            refine Ex_iload_n d_rm_move_52 rfl ?_
            refine Ex_iload_n d_rm_move_53 rfl ?_
            refine Ex_cV2 d_rm_move_54 pk_rm_move_197 (t_38 hs1) (rm_takeRow_s hs1 hPa1 hQ (show a < pNp P by omega) (show b < (pPat P a).length by omega)) ?_
            rintro r h2 ⟨rfl, rfl⟩
            show Ex S rm_move 57 [some (.ref 38), some (.int (nI (a))), some (.int (nI (b))), some (.int (nI (c))), some (.int (nI ((pPat P a).getD b 0))), none] [] (wI (wA h1 47 (dnF (mI h1 47) (60 * a) b ((pPat P a).length - 1))) 48 a (nI ((pPat P a).length - 1))) _
            refine Ex_aload_n d_rm_move_57 rfl ?_
            refine Ex_getR d_rm_move_58 pf_rm_40 rfl (t_38 hs1) (r_38_11 hs1) ?_
            refine Ex_iload_n d_rm_move_61 rfl ?_
            refine Ex_ialoadN (a := a) (y := (nI ((pPat P a).length - 1))) d_rm_move_62 (t_48 hs1) rfl (by omega) (by decide) (by simp [mI_wI]) ?_
            refine Ex_istore [some (.ref 38), some (.int (nI (a))), some (.int (nI (b))), some (.int (nI (c))), some (.int (nI ((pPat P a).getD b 0))), some (.int (nI ((pPat P a).length - 1)))] d_rm_move_63 (Nat.le_of_ble_eq_true rfl) rfl ?_
            refine Ex_heq (h' := (wA (wI (wA h1 47 (dnF (mI h1 47) (60 * a) b ((pPat P a).length - 1))) 48 a (nI ((pPat P a).length - 1))) 47 (upF (mI (wI (wA h1 47 (dnF (mI h1 47) (60 * a) b ((pPat P a).length - 1))) 48 a (nI ((pPat P a).length - 1))) 47) (60 * a) ((pPat P a).length - 1) ((pPat P a).length - 1)))) (by rw [upF_n, wA_self]) ?_
            refine rm_move_L (z := 0) (h := (wI (wA h1 47 (dnF (mI h1 47) (60 * a) b ((pPat P a).length - 1))) 48 a (nI ((pPat P a).length - 1)))) hs1 (by omega) (by omega) (by omega) ?_ ((pPat P a).length - 1 - c) ((pPat P a).length - 1) (by omega) (by omega)
            refine Ex_aload_n d_rm_move_98 rfl ?_
            refine Ex_getR d_rm_move_99 pf_rm_37 rfl (t_38 hs1) (r_38_10 hs1) ?_
            refine Ex_bipush d_rm_move_102 bp_60 ?_
            refine Ex_iload_n d_rm_move_104 rfl ?_
            refine Ex_imulN (60) (a) d_rm_move_105 rfl rfl ?_
            refine Ex_iload_n d_rm_move_106 rfl ?_
            refine Ex_iaddN (60 * a) (c) d_rm_move_107 rfl rfl ?_
            refine Ex_iload d_rm_move_108 rfl ?_
            refine Ex_iastoreN (a := (60 * a) + c) d_rm_move_110 (t_47 hs1) rfl (by omega) (by decide) ?_
            refine Ex_aload_n d_rm_move_111 rfl ?_
            refine Ex_getR d_rm_move_112 pf_rm_40 rfl (t_38 hs1) (r_38_11 hs1) ?_
            refine Ex_iload_n d_rm_move_115 rfl ?_
            refine Ex_dup2 rfl rfl d_rm_move_116 ?_
            refine Ex_ialoadN (a := a) (y := (nI ((pPat P a).length - 1))) d_rm_move_117 (t_48 hs1) rfl (by omega) (by decide) (by simp [mI_wI, mI_wA]) ?_
            refine Ex_iconst d_rm_move_118 ic_1 ?_
            refine Ex_iaddN ((pPat P a).length - 1) (1) d_rm_move_119 rfl rfl ?_
            refine Ex_iastoreN (a := a) d_rm_move_120 (t_48 hs1) rfl (by omega) (by decide) ?_
            refine Ex_iconst d_rm_move_121 ic_1 ?_
            refine Ex_zreturn d_rm_move_122 rfl (by decide) ?_
            refine Or.inr ⟨by unfold okMov okRem; simp only [Int.toNat_natCast]; omega, rfl, ?_, ?_⟩
            · simp only [Int.toNat_natCast]
              have hd := delL_len (l := pPat P a) (i := b) (by omega)
              have hil := insL_len (l := delL (pPat P a) b) (i := c) (x := (pPat P a).getD b 0) (by omega)
              refine ⟨hRw1, PaM_upd (p := a) (l' := insL (delL (pPat P a) b) c ((pPat P a).getD b 0)) hPa1 hQ ?_ (by omega) ?_ ?_ ?_ ?_, hH1⟩
              · rfl
              · rw [hil, hd]; simp [mI_wI, mI_wA]
              · intro q hq; simp [mI_wI, mI_wA, hq]
              · intro i hi
                have := upF_get (x := (pPat P a).getD b 0) (dnF_get (hPa1.2 a (by omega)).2 (show b < (pPat P a).length by omega)) (show c ≤ (delL (pPat P a) b).length by omega) i hi
                rw [hd] at this
                exact this
              · intro q i hq hi
                show va_up (upF (dnF (mI h1 47) (60 * a) b ((pPat P a).length - 1)) (60 * a) ((pPat P a).length - 1) c) (60 * a + c) _ (60 * q + i) = _
                unfold va_up
                rw [if_neg (by omega), upF_out (by omega), dnF_out (by omega)]
            · refine Fr.sI (Fr.sI (Fr.sA (Fr.sI (Fr.sA (hF1.mono (fun a k z => ?_)) (fun k hk => ?_)) ?_) (fun k hk => ?_)) ?_) ?_
              · unfold WHi at z; unfold WPM; omega
              · exact absurd (show WPM 47 k by unfold WPM; omega) hk
              · unfold WPM; omega
              · exact absurd (show WPM 47 k by unfold WPM; omega) hk
              · unfold WPM; omega
              · unfold WPM; omega
          · refine Ex_iconst d_rm_move_36 ic_0 ?_
            refine Ex_zreturn d_rm_move_37 rfl (by decide) ?_
            exact Or.inl ⟨fun z => by (try unfold okMov at z); (try unfold okRem at z); (try simp only [Int.toNat_natCast] at z); omega, rfl, rfl⟩
/-- an answer that is a number, -1 if nothing was made -/
def AnsN (c : Prop) (v : Nat) (R' : mj_H → Prop) (W : Nat → Nat → Prop) (h : mj_H) : Option Value → mj_H → Prop := fun r h' => (¬ c ∧ r = some (.int (-1)) ∧ h' = h) ∨ (c ∧ r = some (.int (nI v)) ∧ R' h' ∧ Fr W h h')
theorem PaM_new {P : SP} {h h' : mj_H} (hPa : PaM P h) {n : Nat} (hQ : PO n P) (e0 : mI h' 38 12 = nI (pNp P + 1)) {l' : List Nat} (e1 : mI h' 48 (pNp P) = nI l'.length) (e2 : ∀ q, q ≠ pNp P → mI h' 48 q = mI h 48 q) (e3 : ∀ i, i < l'.length → mI h' 47 (60 * pNp P + i) = nI (l'.getD i 0)) (e4 : ∀ q i, q ≠ pNp P → i < 60 → mI h' 47 (60 * q + i) = mI h 47 (60 * q + i)) : PaM (newPat P l') h' := by
  refine ⟨e0, fun q hq => ?_⟩
  have hq : q < pNp P + 1 := hq
  by_cases hqp : q = pNp P
  · subst hqp
    have : pPat (newPat P l') (pNp P) = l' := by simp [newPat, pPat, va_up]
    rw [this]
    exact ⟨e1, e3⟩
  · have : pPat (newPat P l') q = pPat P q := by simp [newPat, pPat, va_up, hqp]
    rw [this]
    obtain ⟨a1, a2⟩ := hPa.2 q (by omega)
    have h60 := (hQ.2.2.2.1 q (by omega)).1
    exact ⟨by rw [e2 q hqp]; exact a1, fun i hi => by rw [e4 q i hqp (by omega)]; exact a2 i hi⟩
theorem rm_pattern_s {S : mj_S} {h : mj_H} (hs : HT h) {P : SP} (hP : PM P h) {n : Nat} (hQ : PO n P) : Cl S rm_pattern [.ref 38] h (AnsN (pNp P < 16) (pNp P) (PM (newPat P [])) WPM h) := by
  show Ex S rm_pattern 0 [some (.ref 38)] [] h _
  have hnp := hQ.2.2.1
  refine Ex_aload_n d_rm_pattern_0 rfl ?_
  refine Ex_getIE d_rm_pattern_1 pf_rm_169 rfl (t_38 hs) hP.2.1.1 ?_
  refine Ex_bipush d_rm_pattern_4 bp_16 ?_
  refine Ex_icmp_neN (pNp P) (16) 11 d_rm_pattern_6 rfl rfl rfl (by omega) (by omega) (fun hc6 => ?_) (fun hc6 => ?_)
  · refine Ex_aload_n d_rm_pattern_11 rfl ?_
    refine Ex_getR d_rm_pattern_12 pf_rm_40 rfl (t_38 hs) (r_38_11 hs) ?_
    refine Ex_aload_n d_rm_pattern_15 rfl ?_
    refine Ex_getIE d_rm_pattern_16 pf_rm_169 rfl (t_38 hs) hP.2.1.1 ?_
    refine Ex_iconst d_rm_pattern_19 ic_0 ?_
    refine Ex_iastoreN (a := pNp P) d_rm_pattern_20 (t_48 hs) rfl (by omega) (by decide) ?_
    refine Ex_aload_n d_rm_pattern_21 rfl ?_
    refine Ex_dup rfl d_rm_pattern_22 ?_
    refine Ex_getIE d_rm_pattern_23 pf_rm_169 rfl (t_38 hs) hP.2.1.1 ?_
    refine Ex_iconst d_rm_pattern_26 ic_1 ?_
    refine Ex_iaddN (pNp P) (1) d_rm_pattern_27 rfl rfl ?_
    refine Ex_putI d_rm_pattern_28 pf_rm_169 (Or.inl rfl) (t_38 hs) (Or.inl rfl) ?_
    refine Ex_aload_n d_rm_pattern_31 rfl ?_
    refine Ex_getIE d_rm_pattern_32 pf_rm_169 rfl (t_38 hs) rfl ?_
    refine Ex_iconst d_rm_pattern_35 ic_1 ?_
    refine Ex_isubN (pNp P + 1) (1) d_rm_pattern_36 rfl rfl (by omega) ?_
    refine Ex_ireturn d_rm_pattern_37 rfl ?_
    refine Or.inr ⟨by omega, by rw [show pNp P + 1 - 1 = pNp P by omega], ⟨hP.1, PaM_new hP.2.1 hQ rfl ?_ ?_ (fun i hi => absurd hi (Nat.not_lt_zero i)) (fun q i _ _ => rfl), hP.2.2⟩, ?_⟩
    · simp [mI_wI]; rfl
    · intro q hq; simp [mI_wI, hq]
    · refine Fr.sI (Fr.sI Fr.rf ?_) ?_ <;> (unfold WPM; omega)
  · refine Ex_iconst d_rm_pattern_9 ic_m1 ?_
    refine Ex_ireturn d_rm_pattern_10 rfl ?_
    exact Or.inl ⟨by omega, rfl, rfl⟩
theorem rm_copy_L {S : mj_S} {Q : Option Value → mj_H → Prop} {h : mj_H} (hs : HT h) {a m l : Nat} (ham : a < m) (hm : m < 16) (hl : l ≤ 60) (h48 : mI h 48 a = nI l) (h12 : mI h 38 12 = nI m)
    (kx : Ex S rm_copy 72 [some (.ref 38), some (.int (nI (a))), some (.int (nI (l)))] [] (wA h 47 (cpF (mI h 47) (mI h 47) (60 * m) (60 * a) (l))) Q) : ∀ d k : Nat, k + d = l → Ex S rm_copy 36 [some (.ref 38), some (.int (nI (a))), some (.int (nI (k)))] [] (wA h 47 (cpF (mI h 47) (mI h 47) (60 * m) (60 * a) (k))) Q := by
  intro d
  induction d with
  | zero =>
    intro k hk
    obtain rfl : k = l := by omega
    refine Ex_iload_n d_rm_copy_36 rfl ?_
    refine Ex_aload_n d_rm_copy_37 rfl ?_
    refine Ex_getR d_rm_copy_38 pf_rm_40 rfl (t_38 hs) (r_38_11 hs) ?_
    refine Ex_iload_n d_rm_copy_41 rfl ?_
    refine Ex_ialoadN (a := a) d_rm_copy_42 (t_48 hs) rfl (by omega) (by decide) h48 ?_
    refine Ex_icmp_geN (k) (k) 72 d_rm_copy_43 rfl rfl rfl (by omega) (by omega) (fun hc43 => ?_) (fun hc43 => ?_)
    · exact kx
    · exfalso; omega
  | succ d ih =>
    intro k hk
    refine Ex_iload_n d_rm_copy_36 rfl ?_
    refine Ex_aload_n d_rm_copy_37 rfl ?_
    refine Ex_getR d_rm_copy_38 pf_rm_40 rfl (t_38 hs) (r_38_11 hs) ?_
    refine Ex_iload_n d_rm_copy_41 rfl ?_
    refine Ex_ialoadN (a := a) d_rm_copy_42 (t_48 hs) rfl (by omega) (by decide) h48 ?_
    refine Ex_icmp_geN (k) (l) 72 d_rm_copy_43 rfl rfl rfl (by omega) (by omega) (fun hc43 => ?_) (fun hc43 => ?_)
    · exfalso; omega
    · have hrw : Cl S rm_rowOf [.ref 38, .int (nI a), .int (nI k)] (wA h 47 (cpF (mI h 47) (mI h 47) (60 * m) (60 * a) (k))) (Pu (.int (mI h 47 (60 * a + k))) (wA h 47 (cpF (mI h 47) (mI h 47) (60 * m) (60 * a) (k)))) := by
        have := rm_rowOf_s (S := S) (h := (wA h 47 (cpF (mI h 47) (mI h 47) (60 * m) (60 * a) (k)))) (p := a) (i := k) hs (by omega) (by omega)
        rw [mj_sI] at this
        have e2 : cpF (mI h 47) (mI h 47) (60 * m) (60 * a) k (60 * a + k) = mI h 47 (60 * a + k) := by unfold cpF; rw [if_neg (by omega)]
        rw [e2] at this
        exact this
      refine Ex_aload_n d_rm_copy_46 rfl ?_
      refine Ex_getR d_rm_copy_47 pf_rm_37 rfl (t_38 hs) (r_38_10 hs) ?_
      refine Ex_bipush d_rm_copy_50 bp_60 ?_
      refine Ex_aload_n d_rm_copy_52 rfl ?_
      refine Ex_getIE d_rm_copy_53 pf_rm_169 rfl (t_38 hs) h12 ?_
      refine Ex_imulN (60) (m) d_rm_copy_56 rfl rfl ?_
      refine Ex_iload_n d_rm_copy_57 rfl ?_
      refine Ex_iaddN (60 * m) (k) d_rm_copy_58 rfl rfl ?_
      refine Ex_aload_n d_rm_copy_59 rfl ?_
      refine Ex_iload_n d_rm_copy_60 rfl ?_
      refine Ex_iload_n d_rm_copy_61 rfl ?_
      refine Ex_pV2 d_rm_copy_62 pk_rm_copy_175 (t_38 hs) hrw ?_
      refine Ex_iastoreN (a := (60 * m) + k) d_rm_copy_65 (t_47 hs) rfl (by omega) (by decide) ?_
      refine Ex_iincN (k) 1 [some (.ref 38), some (.int (nI (a))), some (.int (nI (k + 1)))] d_rm_copy_66 rfl rfl rfl rfl ?_
      refine Ex_goto 36 d_rm_copy_69 rfl ?_
      rw [wI_wA]
      exact (cpF_s (mI h 47) (mI h 47) (60 * m) (60 * a) k) ▸ ih (k + 1) (by omega)
def okCopy (P : SP) (p : Int) : Prop := 0 ≤ p ∧ p < pNp P ∧ pNp P < 16
theorem rm_copy_s {S : mj_S} {h : mj_H} (hs : HT h) {P : SP} (hP : PM P h) {n : Nat} (hQ : PO n P) {p : Int} (hp : -2147483648 ≤ p ∧ p < 2147483648) : Cl S rm_copy [.ref 38, .int (J (p))] h (AnsN (okCopy P p) (pNp P) (PM (newPat P (pPat P p.toNat))) WPM h) := by
  show Ex S rm_copy 0 [some (.ref 38), some (.int (J (p))), none] [] h _
  refine Ex_aload_n d_rm_copy_0 rfl ?_
  refine Ex_iload_n d_rm_copy_1 rfl ?_
  refine Ex_pV1 d_rm_copy_2 pk_rm_copy_187 (t_38 hs) (rm_isPattern_s hs hP.2.1 hQ.2.2.1 hp) ?_
  refine Ex_if_eqB (decide (0 ≤ p ∧ p < pNp P)) 17 d_rm_copy_5 rfl rfl (fun hc5 => ?_) (fun hc5 => ?_)
  · rw [decide_eq_false_iff_not] at hc5
    refine Ex_iconst d_rm_copy_17 ic_m1 ?_
    refine Ex_ireturn d_rm_copy_18 rfl ?_
    exact Or.inl ⟨fun z => by unfold okCopy at z; omega, rfl, rfl⟩
  · rw [decide_eq_true_eq] at hc5
    obtain ⟨a, rfl⟩ : ∃ a : Nat, p = (a : Int) := ⟨p.toNat, by omega⟩
    simp only [← nIJ]
    have hlen := (hQ.2.2.2.1 a (by omega)).1
    have hnp := hQ.2.2.1
    have hmd : pMd P ≤ 6000 := hQ.1
    refine Ex_aload_n d_rm_copy_8 rfl ?_
    refine Ex_getIE d_rm_copy_9 pf_rm_169 rfl (t_38 hs) hP.2.1.1 ?_
    refine Ex_bipush d_rm_copy_12 bp_16 ?_
    refine Ex_icmp_neN (pNp P) (16) 19 d_rm_copy_14 rfl rfl rfl (by omega) (by omega) (fun hc14 => ?_) (fun hc14 => ?_)
    · refine Ex_aload_n d_rm_copy_19 rfl ?_
      refine Ex_getR d_rm_copy_20 pf_rm_40 rfl (t_38 hs) (r_38_11 hs) ?_
      refine Ex_aload_n d_rm_copy_23 rfl ?_
      refine Ex_getIE d_rm_copy_24 pf_rm_169 rfl (t_38 hs) hP.2.1.1 ?_
      refine Ex_aload_n d_rm_copy_27 rfl ?_
      refine Ex_getR d_rm_copy_28 pf_rm_40 rfl (t_38 hs) (r_38_11 hs) ?_
      refine Ex_iload_n d_rm_copy_31 rfl ?_
      refine Ex_ialoadN (a := a) d_rm_copy_32 (t_48 hs) rfl (by omega) (by decide) (hP.2.1.2 a (by omega)).1 ?_
      refine Ex_iastoreN (a := pNp P) d_rm_copy_33 (t_48 hs) rfl (by omega) (by decide) ?_
      refine Ex_iconst d_rm_copy_34 ic_0 ?_
      refine Ex_istore_n [some (.ref 38), some (.int (nI (a))), some (.int (0))] d_rm_copy_35 (Nat.le_of_ble_eq_true rfl) rfl ?_
      refine Ex_heq (h' := (wA (wI h 48 (pNp P) (nI (pPat P a).length)) 47 (cpF (mI (wI h 48 (pNp P) (nI (pPat P a).length)) 47) (mI (wI h 48 (pNp P) (nI (pPat P a).length)) 47) (60 * pNp P) (60 * a) 0))) (by rw [cpF_0, wA_self]) ?_
      refine rm_copy_L (h := (wI h 48 (pNp P) (nI (pPat P a).length))) hs (m := pNp P) (l := (pPat P a).length) (by omega) (by omega) hlen (by rw [mI_wI, if_pos rfl, if_neg (by omega)]; exact (hP.2.1.2 a (by omega)).1) hP.2.1.1 ?_ (pPat P a).length 0 (by omega)
      refine Ex_aload_n d_rm_copy_72 rfl ?_
      refine Ex_dup rfl d_rm_copy_73 ?_
      refine Ex_getIE d_rm_copy_74 pf_rm_169 rfl (t_38 hs) hP.2.1.1 ?_
      refine Ex_iconst d_rm_copy_77 ic_1 ?_
      refine Ex_iaddN (pNp P) (1) d_rm_copy_78 rfl rfl ?_
      refine Ex_putI d_rm_copy_79 pf_rm_169 (Or.inl rfl) (t_38 hs) (Or.inl rfl) ?_
      refine Ex_aload_n d_rm_copy_82 rfl ?_
      refine Ex_getIE d_rm_copy_83 pf_rm_169 rfl (t_38 hs) rfl ?_
      refine Ex_iconst d_rm_copy_86 ic_1 ?_
      refine Ex_isubN (pNp P + 1) (1) d_rm_copy_87 rfl rfl (by omega) ?_
      refine Ex_ireturn d_rm_copy_88 rfl ?_
      refine Or.inr ⟨by unfold okCopy; omega, by rw [show pNp P + 1 - 1 = pNp P by omega], ⟨hP.1, PaM_new hP.2.1 hQ rfl ?_ ?_ ?_ ?_, hP.2.2⟩, ?_⟩
      · simp [mI_wI, mI_wA]
      · intro q hq; simp [mI_wI, mI_wA, hq]
      · intro i hi
        simp only [Int.toNat_natCast] at hi ⊢
        show cpF (mI h 47) (mI h 47) (60 * pNp P) (60 * a) (pPat P a).length (60 * pNp P + i) = _
        unfold cpF
        rw [if_pos (by omega), show 60 * a + (60 * pNp P + i - 60 * pNp P) = 60 * a + i by omega]
        exact (hP.2.1.2 a (by omega)).2 i hi
      · intro q i hq hi
        show cpF (mI h 47) (mI h 47) (60 * pNp P) (60 * a) (pPat P a).length (60 * q + i) = _
        unfold cpF
        rw [if_neg (by omega)]
      · refine Fr.sI (Fr.sA (Fr.sI Fr.rf ?_) (fun k hk => ?_)) ?_
        · unfold WPM; omega
        · exact absurd (show WPM 47 k by unfold WPM; omega) hk
        · unfold WPM; omega
    · refine Ex_iconst d_rm_copy_17 ic_m1 ?_
      refine Ex_ireturn d_rm_copy_18 rfl ?_
      exact Or.inl ⟨fun z => by unfold okCopy at z; omega, rfl, rfl⟩
