/-! The class: remove, insert, move, pattern, copy, undo. -/
def NC (P' : SP) (Y : OW) (c s : Nat) (h h' : mj_H) : Prop := (∃ Y', OwE h Y Y' ∧ PC P' Y' h') ∧ Gr c s h h'
theorem Wab_R {P : SP} {Y : OW} {h : mj_H} {p a b : Nat} (z : PaC1 P Y h p a b) : ∀ x k, WRc Y x k → ¬ Wab a b x k := by
  obtain ⟨⟨z1, z2, z3, z4⟩, -⟩ := z
  intro x k hx hw
  unfold WRc at hx
  rcases hw with rfl | ⟨rfl, -⟩
  · rw [z4] at hx
    omega
  · rw [z3] at hx
    omega
theorem Wab_H {P : SP} {Y : OW} {h : mj_H} {p a b : Nat} (z : PaC1 P Y h p a b) : ∀ x k, WHc x k → ¬ Wab a b x k := by
  obtain ⟨⟨z1, z2, z3, z4⟩, -⟩ := z
  intro x k hx hw
  unfold WHc at hx
  unfold Wab at hw
  omega
theorem Wab_C {P : SP} {Y : OW} {h : mj_H} {p a b : Nat} (z : PaC1 P Y h p a b) : ∀ x k, Wab a b x k → WPC Y x k := by
  obtain ⟨⟨z1, z2, z3, z4⟩, -⟩ := z
  intro x k hw
  rcases hw with rfl | ⟨rfl, -⟩
  · exact Or.inr (Or.inl (Or.inr (Or.inr ⟨z2, Or.inr (by rw [z4])⟩)))
  · exact Or.inr (Or.inl (Or.inr (Or.inr ⟨z1, Or.inl (by rw [z3])⟩)))
theorem WHc_C {Y : OW} : ∀ x k, WHc x k → WPC Y x k := fun _ _ z => Or.inr (Or.inr (Or.inl z))
theorem WRn_C {Y : OW} : ∀ x k, WRn x k → WPC Y x k := by
  intro x k z
  rcases z with z | z
  · refine Or.inl ?_
    unfold WRe at z
    unfold WRc
    omega
  · exact Or.inr (Or.inr (Or.inr z))
theorem PaC_upd {P : SP} {Y Y' : OW} {h h' : mj_H} (hs : HT h) (hP : PaC P Y h) {W : Nat → Nat → Prop} {p a b : Nat} {l' : List Nat} (z : PaC1 P Y h p a b) (f : Fr W h h') (hw : ∀ x k, W x k → x ≠ 24 ∧ ¬ (x = 0 ∧ k = 3) ∧ (74 ≤ x → (Y x).1 = 1 ∨ (Y x).1 = 2 → (Y x).2 = p)) (hy : OwE h Y Y') (hB : Pob h' a b l') : PaC (uPat P p l') Y' h' := by
  have hn := HT_n hs
  refine ⟨by rw [f.I (by omega) (fun q => (hw _ _ q).2.1 ⟨rfl, rfl⟩)]; exact hP.1, fun q hq => ?_⟩
  by_cases hqp : q = p
  · subst hqp
    obtain ⟨⟨z1, z2, z3, z4⟩, z5, z6⟩ := z
    refine ⟨a, b, ⟨z1, z2, by rw [hy a (mT_lt z6.1.1)]; exact z3, by rw [hy b (mT_lt z6.1.2.2.2)]; exact z4⟩, by rw [f.R (by omega) (fun q => (hw _ _ q).1 rfl)]; exact z5, ?_⟩
    have e0 : pPat (uPat P q l') q = l' := by
      show va_up (pPat P) q l' q = l'
      unfold va_up
      rw [if_pos rfl]
    rw [e0]
    exact hB
  · obtain ⟨x, y, g⟩ := hP.2 q hq
    have g' := g
    obtain ⟨⟨g1, g2, g3, g4⟩, g5, g6⟩ := g'
    have e0 : pPat (uPat P p l') q = pPat P q := by
      show va_up (pPat P) p l' q = _
      unfold va_up
      rw [if_neg hqp]
    have := PaC1_fr (Y' := Y') hs f (fun q => (hw _ _ q).1 rfl) (fun k q => hqp (by have := (hw _ _ q).2.2 g1 (by rw [g3]; exact Or.inl rfl); rw [g3] at this; exact this)) (fun k q => hqp (by have := (hw _ _ q).2.2 g2 (by rw [g4]; exact Or.inr rfl); rw [g4] at this; exact this)) hy g
    refine ⟨x, y, this.1, this.2.1, ?_⟩
    rw [e0]
    exact this.2.2
theorem PC_ab {P : SP} {Y : OW} {h h' : mj_H} (hs : HT h) (hP : PC P Y h) {p a b : Nat} {l' : List Nat} (z : PaC1 P Y h p a b) (f : Fr (Wab a b) h h') (hB : Pob h' a b l') : PC (uPat P p l') Y h' := by
  refine ⟨RwC_fr hs f (Wab_R z) OwE.rf hP.1, PaC_upd hs hP.2.1 z f (fun x k hw => ?_) OwE.rf hB, HiC_fr hs f (Wab_H z) hP.2.2⟩
  obtain ⟨⟨z1, z2, z3, z4⟩, -⟩ := z
  rcases hw with rfl | ⟨rfl, -⟩
  · exact ⟨by omega, by omega, fun _ _ => by rw [z4]⟩
  · exact ⟨by omega, by omega, fun _ _ => by rw [z3]⟩
theorem PC_hi {P : SP} {Y : OW} {h h' : mj_H} (hs : HT h) (hP : PC P Y h) {l : List (Nat × List Nat)} (f : Fr WHc h h') (hH : HiC (uHi P l) h') : PC (uHi P l) Y h' :=
  ⟨RwC_fr (P := uHi P l) hs f (by intro a k z; unfold WRc at z; unfold WHc; omega) OwE.rf hP.1, PaC_fr (P := uHi P l) hs f (by intro a k z; unfold WPc at z; unfold WHc; omega) OwE.rf hP.2.1, hH⟩
theorem PC_new {P : SP} {Y Y' : OW} {h h' : mj_H} (hs : HT h) (hP : PC P Y h) {L : Nat} {z : Int} {c : Nat → Tl} (f : Fr WRn h h') (hy : OwE h Y Y') (hR : RwC (newR P L z c) Y' h') : PC (newR P L z c) Y' h' :=
  ⟨hR, PaC_fr (P := newR P L z c) hs f (by intro a k z; unfold WPc at z; unfold WRn WRe Wal; omega) hy hP.2.1, HiC_fr (P := newR P L z c) hs f (by intro a k z; unfold WHc at z; unfold WRn WRe Wal; omega) hP.2.2⟩
theorem PaC1_hi {P : SP} {Y : OW} {h h' : mj_H} (hs : HT h) {l : List (Nat × List Nat)} {p a b : Nat} (f : Fr WHc h h') (z : PaC1 P Y h p a b) : PaC1 (uHi P l) Y h' p a b :=
  PaC1_fr (P := uHi P l) hs f (by unfold WHc; omega) (fun k => by have := z.1.1; unfold WHc; omega) (fun k => by have := z.1.2.1; unfold WHc; omega) OwE.rf z
theorem PaC1_new {P : SP} {Y Y' : OW} {h h' : mj_H} (hs : HT h) {L : Nat} {z : Int} {c : Nat → Tl} {p a b : Nat} (f : Fr WRn h h') (hy : OwE h Y Y') (g : PaC1 P Y h p a b) : PaC1 (newR P L z c) Y' h' p a b :=
  PaC1_fr (P := newR P L z c) hs f (by unfold WRn WRe Wal; omega) (fun k => by have := g.1.1; unfold WRn WRe Wal; omega) (fun k => by have := g.1.2.1; unfold WRn WRe Wal; omega) hy g
theorem va_uu {α : Type} (f : Nat → α) (i : Nat) (a b : α) : va_up (va_up f i a) i b = va_up f i b := by
  funext x
  unfold va_up
  split <;> rfl
theorem uPat_u (P : SP) (p : Nat) (l l' : List Nat) : uPat (uPat P p l) p l' = uPat P p l' := by
  unfold uPat
  simp only [pPat, va_uu]
theorem WHc_st : ∀ q ∈ statR, ¬ WHc q.1 q.2.1 := by unfold WHc; decide
theorem Wab_st {a b : Nat} (ha : 74 ≤ a) (hb : 74 ≤ b) : ∀ q ∈ statR, ¬ Wab a b q.1 q.2.1 := by
  intro q hq
  have := st_lt q hq
  unfold Wab
  omega
theorem WHc_0 : ¬ WHc 0 1000000000 := by unfold WHc; omega
theorem Wab_0 {a b : Nat} (hb : 74 ≤ b) : ¬ Wab a b 0 1000000000 := by unfold Wab; omega
theorem to_remove_s {S : mj_S} {h : mj_H} (hs : HT h) {P : SP} {Y : OW} (hP : PC P Y h) {n : Nat} (hQ : PO n P) {p i : Int} (hp : -2147483648 ≤ p ∧ p < 2147483648) (hi : -2147483648 ≤ i ∧ i < 2147483648) : Cl S to_remove [.ref 0, .int (J (p)), .int (J (i))] h (Ans (okRem P p i) (PC P Y) (NC (remP P p.toNat i.toNat) Y 0 0 h) (WPC Y) h) := by
  show Ex S to_remove 0 [some (.ref 0), some (.int (J (p))), some (.int (J (i))), none] [] h _
  by_cases hpp : 0 ≤ p ∧ p < pNp P
  · obtain ⟨a, rfl⟩ : ∃ a : Nat, p = (a : Int) := ⟨p.toNat, by omega⟩
    simp only [← nIJ]
    have hnp := hQ.2.2.1
    have hmd : pMd P ≤ 6000 := hQ.1
    obtain ⟨x, y, hx⟩ := hP.2.1.2 a (by omega)
    have hB := hx.2.2
    have hok := hQ.2.2.2.1 a (by omega)
    have hlen := hok.1
    have hx74 := hx.1.1
    have hy74 := hx.1.2.1
    refine Ex_aload_n d_to_remove_0 rfl ?_
    refine Ex_iload_n d_to_remove_1 rfl ?_
    refine Ex_pV1 d_to_remove_2 pk_to_remove_139 (t_0 hs) (to_patternOf_s hs hP hQ (show a < pNp P by omega) hx) ?_
    refine Ex_astore_n [some (.ref 0), some (.int (nI (a))), some (.int (J (i))), some (.ref (x))] d_to_remove_5 (Nat.le_of_ble_eq_true rfl) rfl ?_
    refine Ex_aload_n d_to_remove_6 rfl ?_
    refine Ex_ifnull d_to_remove_7 ?_
    refine Ex_aload_n d_to_remove_10 rfl ?_
    refine Ex_iload_n d_to_remove_11 rfl ?_
    refine Ex_i2lZ (i) d_to_remove_12 rfl (by omega) ?_
    refine Ex_pV1 d_to_remove_13 pk_to_remove_164 hB.1.1 (pa_hasRow_s hB hlen (by omega)) ?_
    refine Ex_if_neB (decide (0 ≤ i ∧ i < (pPat P a).length)) 21 d_to_remove_16 rfl rfl (fun hc16 => ?_) (fun hc16 => ?_)
    · rw [decide_eq_true_eq] at hc16
      obtain ⟨b, rfl⟩ : ∃ b : Nat, i = (b : Int) := ⟨i.toNat, by omega⟩
      simp only [← nIJ]
      refine Ex_aload_n d_to_remove_21 rfl ?_
      refine Ex_getR d_to_remove_22 pf_to_55 rfl (t_0 hs) (r_0_4 hs) ?_
      refine Ex_iload_n d_to_remove_25 rfl ?_
      refine Ex_aload_n d_to_remove_26 rfl ?_
      refine Ex_cV2 d_to_remove_27 pk_to_remove_153 (t_25 hs) (hi_remember_s (p := a) hs hP.2.2 hQ hB hlen hx74 hy74) ?_
      rintro rv h1 ⟨rfl, hH1, f1⟩
      have hs1 : HT h1 := f1.ht hs WHc_st
      have hP1 : PC (keepP P a) Y h1 := PC_hi hs hP f1 hH1
      have hx1 : PaC1 (keepP P a) Y h1 a x y := PaC1_hi hs f1 hx
      have hB1 : Pob h1 x y (pPat P a) := hx1.2.2
      have hQ1 := PO_keep hQ (show a < pNp P by omega)
      show Ex S to_remove 30 [some (.ref 0), some (.int (nI (a))), some (.int (nI (b))), some (.ref (x))] [] h1 _
      refine Ex_aload_n d_to_remove_30 rfl ?_
      refine Ex_iload_n d_to_remove_31 rfl ?_
      refine Ex_cV1 d_to_remove_32 pk_to_remove_168 hB1.1.1 (pa_removeId_s hB1 hlen (show b < (pPat P a).length by omega)) ?_
      rintro rv h2 ⟨rfl, hB2, f2⟩
      show Ex S to_remove 35 [some (.ref 0), some (.int (nI (a))), some (.int (nI (b))), some (.ref (x))] [] h2 _
      refine Ex_iconst d_to_remove_35 ic_1 ?_
      refine Ex_zreturn d_to_remove_36 rfl (by decide) ?_
      refine Or.inr ⟨by unfold okRem; simp only [Int.toNat_natCast]; omega, rfl, ⟨⟨Y, OwE.rf, ?_⟩, (Gr.of f1 WHc_0).tr (Gr.of f2 (Wab_0 hy74))⟩, (f1.mono WHc_C).tr (f2.mono (Wab_C hx))⟩
      simp only [Int.toNat_natCast]
      exact PC_ab hs1 hP1 hx1 f2 hB2
    · rw [decide_eq_false_iff_not] at hc16
      refine Ex_iconst d_to_remove_19 ic_0 ?_
      refine Ex_zreturn d_to_remove_20 rfl (by decide) ?_
      exact Or.inl ⟨fun z => by (try unfold okRem at z); (try unfold okRem at z); (try simp only [Int.toNat_natCast] at z); omega, rfl, rfl⟩
  · refine Ex_aload_n d_to_remove_0 rfl ?_
    refine Ex_iload_n d_to_remove_1 rfl ?_
    refine Ex_pV1 d_to_remove_2 pk_to_remove_139 (t_0 hs) (to_patternOf_n hs hP hQ hp hpp) ?_
    refine Ex_astore0_n [some (.ref 0), some (.int (J (p))), some (.int (J (i))), some (.null)] d_to_remove_5 (Nat.le_of_ble_eq_true rfl) rfl ?_
    refine Ex_aload0_n d_to_remove_6 rfl ?_
    refine Ex_ifnull0 19 d_to_remove_7 rfl ?_
    refine Ex_iconst d_to_remove_19 ic_0 ?_
    refine Ex_zreturn d_to_remove_20 rfl (by decide) ?_
    exact Or.inl ⟨fun z => by (try unfold okRem at z); (try unfold okRem at z); (try simp only [Int.toNat_natCast] at z); omega, rfl, rfl⟩
theorem to_insert_s {S : mj_S} {h : mj_H} (hs : HT h) {P : SP} {Y : OW} (hP : PC P Y h) {n : Nat} (hQ : PO n P) {p i l z : Int} (hp : -2147483648 ≤ p ∧ p < 2147483648) (hi : -2147483648 ≤ i ∧ i < 2147483648) (hl : -2147483648 ≤ l ∧ l < 2147483648) (hz : -2147483648 ≤ z ∧ z < 2147483648) : Cl S to_insert [.ref 0, .int (J (p)), .int (J (i)), .int (J (l)), .int (J (z))] h (Ans (okIns P p i l z) (PC P Y) (NC (insP P p.toNat i.toNat l.toNat z) Y 1 60 h) (WPC Y) h) := by
  show Ex S to_insert 0 [some (.ref 0), some (.int (J (p))), some (.int (J (i))), some (.int (J (l))), some (.int (J (z))), none] [] h _
  by_cases hpp : 0 ≤ p ∧ p < pNp P
  · obtain ⟨a, rfl⟩ : ∃ a : Nat, p = (a : Int) := ⟨p.toNat, by omega⟩
    simp only [← nIJ]
    have hnp := hQ.2.2.1
    have hmd : pMd P ≤ 6000 := hQ.1
    obtain ⟨x, y, hx⟩ := hP.2.1.2 a (by omega)
    have hB := hx.2.2
    have hok := hQ.2.2.2.1 a (by omega)
    have hlen := hok.1
    have hx74 := hx.1.1
    have hy74 := hx.1.2.1
    refine Ex_aload_n d_to_insert_0 rfl ?_
    refine Ex_iload_n d_to_insert_1 rfl ?_
    refine Ex_pV1 d_to_insert_2 pk_to_insert_139 (t_0 hs) (to_patternOf_s hs hP hQ (show a < pNp P by omega) hx) ?_
    refine Ex_astore [some (.ref 0), some (.int (nI (a))), some (.int (J (i))), some (.int (J (l))), some (.int (J (z))), some (.ref (x))] d_to_insert_5 (Nat.le_of_ble_eq_true rfl) rfl ?_
    refine Ex_aload d_to_insert_7 rfl ?_
    refine Ex_ifnull d_to_insert_9 ?_
    refine Ex_iload_n d_to_insert_12 rfl ?_
    refine Ex_if_ltZ (i) 35 d_to_insert_13 rfl rfl (by omega) (fun hc13 => ?_) (fun hc13 => ?_)
    · refine Ex_iconst d_to_insert_35 ic_0 ?_
      refine Ex_zreturn d_to_insert_36 rfl (by decide) ?_
      exact Or.inl ⟨fun z => by (try unfold okIns at z); (try unfold okRem at z); (try simp only [Int.toNat_natCast] at z); omega, rfl, rfl⟩
    · refine Ex_iload_n d_to_insert_16 rfl ?_
      refine Ex_aload d_to_insert_17 rfl ?_
      refine Ex_getIE d_to_insert_19 pf_to_143 rfl hB.1.1 hB.2.1 ?_
      refine Ex_icmp_gtZ (i) ((((pPat P a).length : Nat) : Int)) 35 d_to_insert_22 rfl rfl (nIJ _) (by omega) (by omega) (fun hc22 => ?_) (fun hc22 => ?_)
      · refine Ex_iconst d_to_insert_35 ic_0 ?_
        refine Ex_zreturn d_to_insert_36 rfl (by decide) ?_
        exact Or.inl ⟨fun z => by (try unfold okIns at z); (try unfold okRem at z); (try simp only [Int.toNat_natCast] at z); omega, rfl, rfl⟩
      · refine Ex_aload d_to_insert_25 rfl ?_
        refine Ex_getIE d_to_insert_27 pf_to_143 rfl hB.1.1 hB.2.1 ?_
        refine Ex_bipush d_to_insert_30 bp_60 ?_
        refine Ex_icmp_ltN ((pPat P a).length) (60) 37 d_to_insert_32 rfl rfl rfl (by omega) (by omega) (fun hc32 => ?_) (fun hc32 => ?_)
        · refine Ex_iload_n d_to_insert_37 rfl ?_
          refine Ex_iload d_to_insert_38 rfl ?_
          refine Ex_pS2 d_to_insert_40 pk_to_insert_146 (rs_mayBe_s hl hz) ?_
          refine Ex_if_eqB (decide (0 ≤ l ∧ l ≤ 60 ∧ -30 ≤ z ∧ z ≤ 30)) 57 d_to_insert_43 rfl rfl (fun hc43 => ?_) (fun hc43 => ?_)
          · rw [decide_eq_false_iff_not] at hc43
            refine Ex_iconst d_to_insert_57 ic_0 ?_
            refine Ex_zreturn d_to_insert_58 rfl (by decide) ?_
            exact Or.inl ⟨fun z => by (try unfold okIns at z); (try unfold okRem at z); (try simp only [Int.toNat_natCast] at z); omega, rfl, rfl⟩
          · rw [decide_eq_true_eq] at hc43
            refine Ex_aload_n d_to_insert_46 rfl ?_
            refine Ex_getR d_to_insert_47 pf_to_42 rfl (t_0 hs) (r_0_1 hs) ?_
            refine Ex_pV0 d_to_insert_50 pk_to_insert_149 (t_21 hs) (rs_left_s hs hP.1 hQ) ?_
            refine Ex_iconst d_to_insert_53 ic_1 ?_
            refine Ex_icmp_geN (6000 - pMd P) (1) 59 d_to_insert_54 rfl rfl rfl (by omega) (by omega) (fun hc54 => ?_) (fun hc54 => ?_)
            · obtain ⟨b, rfl⟩ : ∃ b : Nat, i = (b : Int) := ⟨i.toNat, by omega⟩
              obtain ⟨c, rfl⟩ : ∃ c : Nat, l = (c : Int) := ⟨l.toNat, by omega⟩
              simp only [← nIJ]
              refine Ex_aload_n d_to_insert_59 rfl ?_
              refine Ex_getR d_to_insert_60 pf_to_55 rfl (t_0 hs) (r_0_4 hs) ?_
              refine Ex_iload_n d_to_insert_63 rfl ?_
              refine Ex_aload d_to_insert_64 rfl ?_
              refine Ex_cV2 d_to_insert_66 pk_to_insert_153 (t_25 hs) (hi_remember_s (p := a) hs hP.2.2 hQ hB hlen hx74 hy74) ?_
              rintro rv h1 ⟨rfl, hH1, f1⟩
              have hs1 : HT h1 := f1.ht hs WHc_st
              have hP1 : PC (keepP P a) Y h1 := PC_hi hs hP f1 hH1
              have hx1 : PaC1 (keepP P a) Y h1 a x y := PaC1_hi hs f1 hx
              have hB1 : Pob h1 x y (pPat P a) := hx1.2.2
              have hQ1 := PO_keep hQ (show a < pNp P by omega)
              show Ex S to_insert 69 [some (.ref 0), some (.int (nI (a))), some (.int (nI (b))), some (.int (nI (c))), some (.int (J (z))), some (.ref (x))] [] h1 _
              refine Ex_aload d_to_insert_69 rfl ?_
              refine Ex_iload_n d_to_insert_71 rfl ?_
              refine Ex_aload_n d_to_insert_72 rfl ?_
              refine Ex_getR d_to_insert_73 pf_to_42 rfl (t_0 hs1) (r_0_1 hs1) ?_
              refine Ex_iload_n d_to_insert_76 rfl ?_
              refine Ex_iload d_to_insert_77 rfl ?_
              refine Ex_cV2 d_to_insert_79 pk_to_insert_157 (t_21 hs1) (rs_make_s hs1 hP1.1 hQ1 (show pMd P < 6000 by omega) (show c ≤ 60 by omega) (show -30 ≤ z ∧ z ≤ 30 by omega)) ?_
              rintro rv h2 ⟨rfl, ⟨Y2, oY, hR2⟩, f2, g2⟩
              have hs2 : HT h2 := f2.ht hs1 WRn_st
              have hP2 := PC_new hs1 hP1 f2 oY hR2
              have hx2 := PaC1_new (L := c) (z := z) (c := fun _ => none) hs1 f2 oY hx1
              have hB2 : Pob h2 x y (pPat P a) := hx2.2.2
              show Ex S to_insert 82 [some (.ref 0), some (.int (nI (a))), some (.int (nI (b))), some (.int (nI (c))), some (.int (J (z))), some (.ref (x))] [.int (nI (pMd P)), .int (nI (b)), .ref (x)] h2 _
              refine Ex_cV2 d_to_insert_82 pk_to_insert_160 hB2.1.1 (pa_insertId_s hB2 (show (pPat P a).length < 60 by omega) (show b ≤ (pPat P a).length by omega)) ?_
              rintro rv h3 ⟨rfl, hB3, f3⟩
              show Ex S to_insert 85 [some (.ref 0), some (.int (nI (a))), some (.int (nI (b))), some (.int (nI (c))), some (.int (J (z))), some (.ref (x))] [] h3 _
              refine Ex_iconst d_to_insert_85 ic_1 ?_
              refine Ex_zreturn d_to_insert_86 rfl (by decide) ?_
              refine Or.inr ⟨by unfold okIns; simp only [Int.toNat_natCast]; omega, rfl, ⟨⟨Y2, (fun k hk => oY k (by have := f1.le; omega)), ?_⟩, ((Gr.of f1 WHc_0).tr g2).tr (Gr.of f3 (Wab_0 hy74))⟩, ((f1.mono WHc_C).tr (f2.mono WRn_C)).tr (f3.mono (Wab_C hx))⟩
              simp only [Int.toNat_natCast]
              exact PC_ab hs2 hP2 hx2 f3 hB3
            · refine Ex_iconst d_to_insert_57 ic_0 ?_
              refine Ex_zreturn d_to_insert_58 rfl (by decide) ?_
              exact Or.inl ⟨fun z => by (try unfold okIns at z); (try unfold okRem at z); (try simp only [Int.toNat_natCast] at z); omega, rfl, rfl⟩
        · refine Ex_iconst d_to_insert_35 ic_0 ?_
          refine Ex_zreturn d_to_insert_36 rfl (by decide) ?_
          exact Or.inl ⟨fun z => by (try unfold okIns at z); (try unfold okRem at z); (try simp only [Int.toNat_natCast] at z); omega, rfl, rfl⟩
  · refine Ex_aload_n d_to_insert_0 rfl ?_
    refine Ex_iload_n d_to_insert_1 rfl ?_
    refine Ex_pV1 d_to_insert_2 pk_to_insert_139 (t_0 hs) (to_patternOf_n hs hP hQ hp hpp) ?_
    refine Ex_astore0 [some (.ref 0), some (.int (J (p))), some (.int (J (i))), some (.int (J (l))), some (.int (J (z))), some (.null)] d_to_insert_5 (Nat.le_of_ble_eq_true rfl) rfl ?_
    refine Ex_aload0 d_to_insert_7 rfl ?_
    refine Ex_ifnull0 35 d_to_insert_9 rfl ?_
    refine Ex_iconst d_to_insert_35 ic_0 ?_
    refine Ex_zreturn d_to_insert_36 rfl (by decide) ?_
    exact Or.inl ⟨fun z => by (try unfold okIns at z); (try unfold okRem at z); (try simp only [Int.toNat_natCast] at z); omega, rfl, rfl⟩
theorem to_move_s {S : mj_S} {h : mj_H} (hs : HT h) {P : SP} {Y : OW} (hP : PC P Y h) {n : Nat} (hQ : PO n P) {p i t : Int} (hp : -2147483648 ≤ p ∧ p < 2147483648) (hi : -2147483648 ≤ i ∧ i < 2147483648) (ht : -2147483648 ≤ t ∧ t < 2147483648) : Cl S to_move [.ref 0, .int (J (p)), .int (J (i)), .int (J (t))] h (Ans (okMov P p i t) (PC P Y) (NC (movP P p.toNat i.toNat t.toNat) Y 0 0 h) (WPC Y) h) := by
  show Ex S to_move 0 [some (.ref 0), some (.int (J (p))), some (.int (J (i))), some (.int (J (t))), none, none] [] h _
  by_cases hpp : 0 ≤ p ∧ p < pNp P
  · obtain ⟨a, rfl⟩ : ∃ a : Nat, p = (a : Int) := ⟨p.toNat, by omega⟩
    simp only [← nIJ]
    have hnp := hQ.2.2.1
    have hmd : pMd P ≤ 6000 := hQ.1
    obtain ⟨x, y, hx⟩ := hP.2.1.2 a (by omega)
    have hB := hx.2.2
    have hok := hQ.2.2.2.1 a (by omega)
    have hlen := hok.1
    have hx74 := hx.1.1
    have hy74 := hx.1.2.1
    refine Ex_aload_n d_to_move_0 rfl ?_
    refine Ex_iload_n d_to_move_1 rfl ?_
    refine Ex_pV1 d_to_move_2 pk_to_move_139 (t_0 hs) (to_patternOf_s hs hP hQ (show a < pNp P by omega) hx) ?_
    refine Ex_astore [some (.ref 0), some (.int (nI (a))), some (.int (J (i))), some (.int (J (t))), some (.ref (x)), none] d_to_move_5 (Nat.le_of_ble_eq_true rfl) rfl ?_
    refine Ex_aload d_to_move_7 rfl ?_
    refine Ex_ifnull d_to_move_9 ?_
    refine Ex_aload d_to_move_12 rfl ?_
    refine Ex_iload_n d_to_move_14 rfl ?_
    refine Ex_i2lZ (i) d_to_move_15 rfl (by omega) ?_
    refine Ex_pV1 d_to_move_16 pk_to_move_164 hB.1.1 (pa_hasRow_s hB hlen (by omega)) ?_
    refine Ex_if_eqB (decide (0 ≤ i ∧ i < (pPat P a).length)) 32 d_to_move_19 rfl rfl (fun hc19 => ?_) (fun hc19 => ?_)
    · rw [decide_eq_false_iff_not] at hc19
      refine Ex_iconst d_to_move_32 ic_0 ?_
      refine Ex_zreturn d_to_move_33 rfl (by decide) ?_
      exact Or.inl ⟨fun z => by (try unfold okMov at z); (try unfold okRem at z); (try simp only [Int.toNat_natCast] at z); omega, rfl, rfl⟩
    · rw [decide_eq_true_eq] at hc19
      refine Ex_aload d_to_move_22 rfl ?_
      refine Ex_iload_n d_to_move_24 rfl ?_
      refine Ex_i2lZ (t) d_to_move_25 rfl (by omega) ?_
      refine Ex_pV1 d_to_move_26 pk_to_move_164 hB.1.1 (pa_hasRow_s hB hlen (by omega)) ?_
      refine Ex_if_neB (decide (0 ≤ t ∧ t < (pPat P a).length)) 34 d_to_move_29 rfl rfl (fun hc29 => ?_) (fun hc29 => ?_)
      · rw [decide_eq_true_eq] at hc29
        obtain ⟨b, rfl⟩ : ∃ b : Nat, i = (b : Int) := ⟨i.toNat, by omega⟩
        obtain ⟨c, rfl⟩ : ∃ c : Nat, t = (c : Int) := ⟨t.toNat, by omega⟩
        simp only [← nIJ]
        obtain ⟨q, hid, hq, hql⟩ := idS_in hok (i := (b : Int)) (by omega)
        rw [Int.toNat_natCast] at hql
        refine Ex_aload_n d_to_move_34 rfl ?_
        refine Ex_getR d_to_move_35 pf_to_55 rfl (t_0 hs) (r_0_4 hs) ?_
        refine Ex_iload_n d_to_move_38 rfl ?_
        refine Ex_aload d_to_move_39 rfl ?_
        refine Ex_cV2 d_to_move_41 pk_to_move_153 (t_25 hs) (hi_remember_s (p := a) hs hP.2.2 hQ hB hlen hx74 hy74) ?_
        rintro rv h1 ⟨rfl, hH1, f1⟩
        have hs1 : HT h1 := f1.ht hs WHc_st
        have hP1 : PC (keepP P a) Y h1 := PC_hi hs hP f1 hH1
        have hx1 : PaC1 (keepP P a) Y h1 a x y := PaC1_hi hs f1 hx
        have hB1 : Pob h1 x y (pPat P a) := hx1.2.2
        have hQ1 := PO_keep hQ (show a < pNp P by omega)
        show Ex S to_move 44 [some (.ref 0), some (.int (nI (a))), some (.int (nI (b))), some (.int (nI (c))), some (.ref (x)), none] [] h1 _
        refine Ex_aload d_to_move_44 rfl ?_
        refine Ex_iload_n d_to_move_46 rfl ?_
        refine Ex_i2lZ (((b : Nat) : Int)) d_to_move_47 (nIJ _) (by omega) ?_
        refine Ex_pV1 d_to_move_48 pk_to_move_171 hB1.1.1 (show Cl S pa_idAt _ h1 (Pu (.int (nI q)) h1) by rw [nIJ, ← hid]; exact pa_idAt_s hB1 hlen (by omega)) ?_
        refine Ex_istore [some (.ref 0), some (.int (nI (a))), some (.int (nI (b))), some (.int (nI (c))), some (.ref (x)), some (.int (nI (q)))] d_to_move_51 (Nat.le_of_ble_eq_true rfl) rfl ?_
        refine Ex_aload d_to_move_53 rfl ?_
        refine Ex_iload_n d_to_move_55 rfl ?_
        refine Ex_cV1 d_to_move_56 pk_to_move_168 hB1.1.1 (pa_removeId_s hB1 hlen (show b < (pPat P a).length by omega)) ?_
        rintro rv h2 ⟨rfl, hB2, f2⟩
        have hs2 : HT h2 := f2.ht hs1 (Wab_st hx74 hy74)
        have hd := delL_len (l := pPat P a) (i := b) (by omega)
        show Ex S to_move 59 [some (.ref 0), some (.int (nI (a))), some (.int (nI (b))), some (.int (nI (c))), some (.ref (x)), some (.int (nI (q)))] [] h2 _
        refine Ex_aload d_to_move_59 rfl ?_
        refine Ex_iload_n d_to_move_61 rfl ?_
        refine Ex_iload d_to_move_62 rfl ?_
        refine Ex_cV2 d_to_move_64 pk_to_move_160 hB2.1.1 (pa_insertId_s hB2 (show (delL (pPat P a) b).length < 60 by omega) (show c ≤ (delL (pPat P a) b).length by omega)) ?_
        rintro rv h3 ⟨rfl, hB3, f3⟩
        show Ex S to_move 67 [some (.ref 0), some (.int (nI (a))), some (.int (nI (b))), some (.int (nI (c))), some (.ref (x)), some (.int (nI (q)))] [] h3 _
        refine Ex_iconst d_to_move_67 ic_1 ?_
        refine Ex_zreturn d_to_move_68 rfl (by decide) ?_
        have hw2 := f2.tr f3
        refine Or.inr ⟨by unfold okMov okRem; simp only [Int.toNat_natCast]; omega, rfl, ⟨⟨Y, OwE.rf, ?_⟩, (Gr.of f1 WHc_0).tr (Gr.of hw2 (Wab_0 hy74))⟩, (f1.mono WHc_C).tr (hw2.mono (Wab_C hx))⟩
        simp only [Int.toNat_natCast]
        unfold movP
        rw [← hql]
        exact PC_ab hs1 hP1 hx1 hw2 hB3
      · rw [decide_eq_false_iff_not] at hc29
        refine Ex_iconst d_to_move_32 ic_0 ?_
        refine Ex_zreturn d_to_move_33 rfl (by decide) ?_
        exact Or.inl ⟨fun z => by (try unfold okMov at z); (try unfold okRem at z); (try simp only [Int.toNat_natCast] at z); omega, rfl, rfl⟩
  · refine Ex_aload_n d_to_move_0 rfl ?_
    refine Ex_iload_n d_to_move_1 rfl ?_
    refine Ex_pV1 d_to_move_2 pk_to_move_139 (t_0 hs) (to_patternOf_n hs hP hQ hp hpp) ?_
    refine Ex_astore0 [some (.ref 0), some (.int (J (p))), some (.int (J (i))), some (.int (J (t))), some (.null), none] d_to_move_5 (Nat.le_of_ble_eq_true rfl) rfl ?_
    refine Ex_aload0 d_to_move_7 rfl ?_
    refine Ex_ifnull0 32 d_to_move_9 rfl ?_
    refine Ex_iconst d_to_move_32 ic_0 ?_
    refine Ex_zreturn d_to_move_33 rfl (by decide) ?_
    exact Or.inl ⟨fun z => by (try unfold okMov at z); (try unfold okRem at z); (try simp only [Int.toNat_natCast] at z); omega, rfl, rfl⟩
