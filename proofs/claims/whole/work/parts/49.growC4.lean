/-! The class: grow. -/
theorem to_grow_L {S : mj_S} {Q : Option Value → mj_H → Prop} {h : mj_H} (hs : HT h) {K : SK} (hK : KC K h) (hO : KO K) {R : SR} {Y : OW} (hRO : RO K.1 R) {r a b c dd : Nat} (hr : r < R.1) (hx : RuC1 R Y h r a b c dd) {P : SP} (hP : PC P Y h) (hQ : PO K.1 P) {p x y : Nat} (hp : p < pNp P) (hpx : PaC1 P Y h p x y) {s : Nat} (hs5 : s ≤ 5) (hok : ∀ t, t < s → okLv R r (lvN K R r (lv0 P (pPat P p)) t)) (hm : pMd P + (pPat P p).length * rR R r ^ s ≤ 6000) {x2 y2 np : Nat} (hY : 74 ≤ x2 ∧ 74 ≤ y2 ∧ Y x2 = (1, np) ∧ Y y2 = (2, np)) (hnp : pNp P ≤ np) (hne : x ≠ x2 ∧ x ≠ y2 ∧ y ≠ x2 ∧ y ≠ y2 ∧ a ≠ x2 ∧ a ≠ y2 ∧ b ≠ x2 ∧ b ≠ y2) {z1 z2 : Int32} (htx : mT h x2 = some (16, 3) ∧ mT h y2 = some (0, 60))
    (kx : ∀ h1 : mj_H, (∃ Y1, OwE h Y Y1 ∧ PC (grR P (lvN K R r (lv0 P (pPat P p)) s) ((pPat P p).length * (rR R r) ^ s)) Y1 h1 ∧ Pob h1 x2 y2 (rgL (pMd P) ((pPat P p).length * (rR R r) ^ s)) ∧ Fr (fun u k => WRx Y u k ∨ Wab x2 y2 u k) h h1 ∧ Gr ((pPat P p).length * (rR R r) ^ s) (60 * ((pPat P p).length * (rR R r) ^ s)) h h1) → Ex S to_grow 165 [some (.ref 0), some (.int (z1)), some (.int (z2)), some (.int (nI (s))), some (.ref (x)), some (.ref (a)), some (.int (nI ((rR R r) ^ s))), some (.int (nI ((rC R r) ^ s))), some (.ref (x2)), some (.int (nI ((pPat P p).length * (rR R r) ^ s)))] [] h1 Q) : ∀ d i : Nat, i + d = (pPat P p).length * (rR R r) ^ s → ∀ h1 : mj_H, (∃ Y1, OwE h Y Y1 ∧ PC (grR P (lvN K R r (lv0 P (pPat P p)) s) i) Y1 h1 ∧ Pob h1 x2 y2 (rgL (pMd P) i) ∧ Fr (fun u k => WRx Y u k ∨ Wab x2 y2 u k) h h1 ∧ Gr i (60 * i) h h1) → Ex S to_grow 128 [some (.ref 0), some (.int (z1)), some (.int (z2)), some (.int (nI (s))), some (.ref (x)), some (.ref (a)), some (.int (nI ((rR R r) ^ s))), some (.int (nI ((rC R r) ^ s))), some (.ref (x2)), some (.int (nI (i)))] [] h1 Q := by
  obtain ⟨hz1, hz2⟩ := hRO.2 r hr
  have hokl := hQ.2.2.2.1 p hp
  have hl60 := hokl.1
  have hsR := pw_b (a := rR R r) (by omega) hs5
  have hsC := pw_b (a := rC R r) (by omega) hs5
  have hL0 := lv0_ok hQ hokl
  have hLs : LO K.1 (lvN K R r (lv0 P (pPat P p)) s) := lvN_ok hO hRO hr hL0 s hok
  obtain ⟨q1, q2, q3⟩ := lv_sz K R r (lv0 P (pPat P p)) s
  have hi60 : (pPat P p).length * (rR R r) ^ s ≤ 60 * 1024 := mul_le hl60 hsR.2
  have hg60 : (pPat P p).length * (rR R r) ^ s ≤ 60 := by have z := hLs.1; rw [q1] at z; exact z
  have hmd : pMd P ≤ 6000 := hQ.1
  have hxh : mT h x2 = some (16, 3) ∧ mT h y2 = some (0, 60) := htx
  intro d
  induction d with
  | zero =>
    intro i hkk h1 hI
    obtain rfl : (pPat P p).length * (rR R r) ^ s = i := by omega
    have hI0 := hI
    obtain ⟨Y1, oY, hP1, hB2, f1, g1⟩ := hI
    have hs1 : HT h1 := f1.ht hs (fun q hq z => z.elim (WRx_st Y q hq) (Wab_st hY.1 hY.2.1 q hq))
    have hx74 := hpx.1.1
    have hy74 := hpx.1.2.1
    have cx : Y x = (1, p) := hpx.1.2.2.1
    have cy : Y y = (2, p) := hpx.1.2.2.2
    have lx := mT_lt hpx.2.2.1.1
    have ly := mT_lt hpx.2.2.1.2.2.2
    have hB1 : Pob h1 x y (pPat P p) := Pob_fr f1 (fun k w => by
      rcases w with (w | w) | w
      · unfold WRn WRe Wal at w; omega
      · rw [cx] at w; omega
      · unfold Wab at w; omega) (fun k w => by
      rcases w with (w | w) | w
      · unfold WRn WRe Wal at w; omega
      · rw [cy] at w; omega
      · unfold Wab at w; omega) hpx.2.2
    refine Ex_iload d_to_grow_128 rfl ?_
    refine Ex_aload d_to_grow_130 rfl ?_
    refine Ex_getIE (y := (nI ((pPat P p).length))) d_to_grow_132 pf_to_143 rfl hB1.1.1 hB1.2.1 ?_
    refine Ex_iload d_to_grow_135 rfl ?_
    refine Ex_imulN ((pPat P p).length) ((rR R r) ^ s) d_to_grow_137 rfl rfl ?_
    refine Ex_icmp_geN ((pPat P p).length * (rR R r) ^ s) (((pPat P p).length) * ((rR R r) ^ s)) 165 d_to_grow_138 rfl rfl rfl (by omega) (by omega) (fun hc138 => ?_) (fun hc138 => ?_)
    · exact kx h1 hI0
    · exfalso; omega
  | succ d ih =>
    intro i hkk h1 hI
    obtain ⟨Y1, oY, hP1, hB2, f1, g1⟩ := hI
    have hs1 : HT h1 := f1.ht hs (fun q hq z => z.elim (WRx_st Y q hq) (Wab_st hY.1 hY.2.1 q hq))
    have hx74 := hpx.1.1
    have hy74 := hpx.1.2.1
    have cx : Y x = (1, p) := hpx.1.2.2.1
    have cy : Y y = (2, p) := hpx.1.2.2.2
    have lx := mT_lt hpx.2.2.1.1
    have ly := mT_lt hpx.2.2.1.2.2.2
    have hB1 : Pob h1 x y (pPat P p) := Pob_fr f1 (fun k w => by
      rcases w with (w | w) | w
      · unfold WRn WRe Wal at w; omega
      · rw [cx] at w; omega
      · unfold Wab at w; omega) (fun k w => by
      rcases w with (w | w) | w
      · unfold WRn WRe Wal at w; omega
      · rw [cy] at w; omega
      · unfold Wab at w; omega) hpx.2.2
    have hK1 : KC K h1 := KC_fr hs f1 (by intro u k; unfold WKC WRx WRn WRe Wal Wab; omega) hK
    have hx1 : RuC1 R Y1 h1 r a b c dd := RuC1_fr hs f1 (by unfold WRx WRn WRe Wal Wab; omega) (fun k w => by
      have h1 := hx.1.1
      rcases w with (w | w) | w
      · unfold WRn WRe Wal at w; omega
      · rw [h1.2] at w; omega
      · unfold Wab at w; omega) (fun k w => by
      have h1 := hx.1.2.1
      rcases w with (w | w) | w
      · unfold WRn WRe Wal at w; omega
      · rw [h1.2] at w; omega
      · unfold Wab at w; omega) oY hx
    obtain ⟨g2, g3, g4, g5⟩ := grR_s P (lvN K R r (lv0 P (pPat P p)) s) i
    have hQ1 : PO K.1 (grR P (lvN K R r (lv0 P (pPat P p)) s) i) := grR_ok hQ hLs i (by rw [q1]; show i ≤ (pPat P p).length * (rR R r) ^ s; omega) (by omega)
    have hl1 : okL (pMd (grR P (lvN K R r (lv0 P (pPat P p)) s) i)) (pPat P p) := okL_mono hokl (by omega)
    have hu : i / (rR R r) ^ s < (pPat P p).length := by rw [Nat.div_lt_iff_lt_mul (by omega)]; omega
    have lx2 := mT_lt hB2.1.1
    have cx1 : Y1 x = (1, p) := by rw [oY x lx]; exact cx
    have cy1 : Y1 y = (2, p) := by rw [oY y ly]; exact cy
    refine Ex_iload d_to_grow_128 rfl ?_
    refine Ex_aload d_to_grow_130 rfl ?_
    refine Ex_getIE (y := (nI ((pPat P p).length))) d_to_grow_132 pf_to_143 rfl hB1.1.1 hB1.2.1 ?_
    refine Ex_iload d_to_grow_135 rfl ?_
    refine Ex_imulN ((pPat P p).length) ((rR R r) ^ s) d_to_grow_137 rfl rfl ?_
    refine Ex_icmp_geN (i) (((pPat P p).length) * ((rR R r) ^ s)) 165 d_to_grow_138 rfl rfl rfl (by omega) (by omega) (fun hc138 => ?_) (fun hc138 => ?_)
    · exfalso; omega
    · refine Ex_aload d_to_grow_141 rfl ?_
      refine Ex_iload d_to_grow_143 rfl ?_
      refine Ex_aload_n d_to_grow_145 rfl ?_
      refine Ex_aload d_to_grow_146 rfl ?_
      refine Ex_aload d_to_grow_148 rfl ?_
      refine Ex_iload_n d_to_grow_150 rfl ?_
      refine Ex_iload d_to_grow_151 rfl ?_
      refine Ex_cV4 d_to_grow_153 pk_to_grow_291 (t_0 hs1) (to_grownRow_s hs1 hK1 hO hRO hr hx1 hP1.1 hQ1 hB1 hl1 (Src_gr hokl (Src_0 P (pPat P p)) (lvN K R r (lv0 P (pPat P p)) s) i) hs5 ⟨⟨hx74, by rw [cx1]; show 1 ≠ 0; decide⟩, hy74, by rw [cy1]; show 2 ≠ 0; decide⟩ (by rw [g2]; omega) hok (i := i) (by omega) rfl) ?_
      rintro rv h2 ⟨rfl, Y2, oY2, hR2, f2, g6⟩
      have hR2 : RwC (grR P (lvN K R r (lv0 P (pPat P p)) s) (i + 1)) Y2 h2 := by
        show RwC (newR (grR P (lvN K R r (lv0 P (pPat P p)) s) i) (gL (lvN K R r (lv0 P (pPat P p)) s) i) (gO (lvN K R r (lv0 P (pPat P p)) s) i) (cpC (gX (lvN K R r (lv0 P (pPat P p)) s) i) (gL (lvN K R r (lv0 P (pPat P p)) s) i))) Y2 h2
        rw [q2, q3]
        exact hR2
      have hs2 : HT h2 := f2.ht hs1 (WRx_st Y1)
      have cx2 : Y1 x2 = (1, np) := by rw [oY x2 (mT_lt hxh.1)]; exact hY.2.2.1
      have cy2 : Y1 y2 = (2, np) := by rw [oY y2 (mT_lt hxh.2)]; exact hY.2.2.2
      have hB3 : Pob h2 x2 y2 (rgL (pMd P) i) := Pob_x f2 ⟨hY.1, by rw [cx2]; show 1 ≠ 0; decide⟩ ⟨hY.2.1, by rw [cy2]; show 2 ≠ 0; decide⟩ hB2
      have hP2 : PC (grR P (lvN K R r (lv0 P (pPat P p)) s) (i + 1)) Y2 h2 := ⟨hR2, PaC_fr (P := grR P (lvN K R r (lv0 P (pPat P p)) s) (i + 1)) hs1 f2 (by intro u k; unfold WPc WRx WRn WRe Wal; omega) oY2 hP1.2.1, HiC_fr (P := grR P (lvN K R r (lv0 P (pPat P p)) s) (i + 1)) hs1 f2 (by intro u k; unfold WHc WRx WRn WRe Wal; omega) hP1.2.2⟩
      rw [g2]
      show Ex S to_grow 156 [some (.ref 0), some (.int (z1)), some (.int (z2)), some (.int (nI (s))), some (.ref (x)), some (.ref (a)), some (.int (nI ((rR R r) ^ s))), some (.int (nI ((rC R r) ^ s))), some (.ref (x2)), some (.int (nI (i)))] [.int (nI (pMd P + i)), .int (nI (i)), .ref (x2)] h2 _
      refine Ex_cV2 d_to_grow_156 pk_to_grow_160 hB3.1.1 (pa_insertId_s hB3 (by rw [rgL_len]; omega) (by rw [rgL_len]; omega)) ?_
      rintro rv h3 ⟨rfl, hB4, f3⟩
      rw [insL_end] at hB4
      show Ex S to_grow 159 [some (.ref 0), some (.int (z1)), some (.int (z2)), some (.int (nI (s))), some (.ref (x)), some (.ref (a)), some (.int (nI ((rR R r) ^ s))), some (.int (nI ((rC R r) ^ s))), some (.ref (x2)), some (.int (nI (i)))] [] h3 _
      refine Ex_iincN (i) 1 [some (.ref 0), some (.int (z1)), some (.int (z2)), some (.int (nI (s))), some (.ref (x)), some (.ref (a)), some (.int (nI ((rR R r) ^ s))), some (.int (nI ((rC R r) ^ s))), some (.ref (x2)), some (.int (nI (i + 1)))] d_to_grow_159 rfl rfl rfl rfl ?_
      refine Ex_goto 128 d_to_grow_162 rfl ?_
      refine ih (i + 1) (by omega) h3 ⟨Y2, oY.tr oY2 f1.le, ?_, hB4, ?_, ?_⟩
      · have n2 := f2.le
        refine PC_out hs2 hP2 (a := x2) (b := y2) (q := np) ⟨hY.1, hY.2.1, by rw [oY2 x2 (by have := mT_lt hxh.1; have := f1.le; omega)]; exact cx2, by rw [oY2 y2 (by have := mT_lt hxh.2; have := f1.le; omega)]; exact cy2⟩ ?_ f3
        rw [(grR_s P (lvN K R r (lv0 P (pPat P p)) s) (i + 1)).2.1]
        exact hnp
      · refine (f1.trN f2 (by have := HT_n hs; omega) (fun u k hu2 w => Or.inl ?_)).tr (f3.mono (fun u k w => Or.inr w))
        rcases w with w | w
        · exact Or.inl w
        · exact Or.inr ⟨w.1, by rw [← oY u hu2]; exact w.2⟩
      · have z := (g1.tr g6).tr (Gr.of f3 (Wab_0 hY.2.1))
        rw [show 60 * (i + 1) = 60 * i + 60 + 0 by omega]
        exact z
theorem to_grow_s {S : mj_S} {h : mj_H} (hs : HT h) {K : SK} (hK : KC K h) (hO : KO K) {R : SR} {Y : OW} (hR : RuC R Y h) (hRO : RO K.1 R) {P : SP} (hP : PC P Y h) (hQ : PO K.1 P) {p r w : Int} (hp : -2147483648 ≤ p ∧ p < 2147483648) (hr : -2147483648 ≤ r ∧ r < 2147483648) (hw : -2147483648 ≤ w ∧ w < 2147483648) : Cl S to_grow [.ref 0, .int (J p), .int (J r), .int (J w)] h (AnsF (okGr K R P p r w) (pNp P) (NC (grP P (lvG K R P p.toNat r.toNat w.toNat)) Y (2 + gN (lvG K R P p.toNat r.toNat w.toNat)) (63 + 60 * gN (lvG K R P p.toNat r.toNat w.toNat)) h) (WPC Y) h) := by
  show Ex S to_grow 0 [some (.ref 0), some (.int (J (p))), some (.int (J (r))), some (.int (J (w))), none, none, none, none, none, none] [] h _
  have hnp := hQ.2.2.1
  have hmd : pMd P ≤ 6000 := hQ.1
  have h8 := hRO.1
  by_cases hpp : 0 ≤ p ∧ p < pNp P
  · by_cases hrr : 0 ≤ r ∧ r < R.1
    · obtain ⟨a, b, c, d, hx9⟩ := hR.2 r.toNat (by omega)
      obtain ⟨hz1, hz2⟩ := hRO.2 r.toNat (by omega)
      obtain ⟨x, y, hx⟩ := hP.2.1.2 p.toNat (by omega)
      have hB := hx.2.2
      have hok := hQ.2.2.2.1 p.toNat (by omega)
      have hlen := hok.1
      have hx74 := hx.1.1
      have hy74 := hx.1.2.1
      refine Ex_aload_n d_to_grow_0 rfl ?_
      refine Ex_iload_n d_to_grow_1 rfl ?_
      refine Ex_pV1 (v := .ref (x)) d_to_grow_2 pk_to_grow_139 (t_0 hs) (to_patternOf_z hs hP hQ hpp hx) ?_
      refine Ex_astore [some (.ref 0), some (.int (J (p))), some (.int (J (r))), some (.int (J (w))), some (.ref (x)), none, none, none, none, none] d_to_grow_5 (Nat.le_of_ble_eq_true rfl) rfl ?_
      refine Ex_aload_n d_to_grow_7 rfl ?_
      refine Ex_iload_n d_to_grow_8 rfl ?_
      refine Ex_pV1 (v := .ref (a)) d_to_grow_9 pk_to_grow_269 (t_0 hs) (to_ruleOf_z hs hR hRO hrr hx9) ?_
      refine Ex_astore [some (.ref 0), some (.int (J (p))), some (.int (J (r))), some (.int (J (w))), some (.ref (x)), some (.ref (a)), none, none, none, none] d_to_grow_12 (Nat.le_of_ble_eq_true rfl) rfl ?_
      refine Ex_aload d_to_grow_14 rfl ?_
      refine Ex_ifnull d_to_grow_16 ?_
      refine Ex_aload d_to_grow_19 rfl ?_
      refine Ex_ifnull d_to_grow_21 ?_
      refine Ex_iload_n d_to_grow_24 rfl ?_
      refine Ex_if_ltZ (w) 33 d_to_grow_25 rfl rfl (by omega) (fun hc25 => ?_) (fun hc25 => ?_)
      · refine Ex_iconst d_to_grow_33 ic_m1 ?_
        refine Ex_ireturn d_to_grow_34 rfl ?_
        refine Or.inl ⟨?_, rfl, Fr.rf⟩
        rintro ⟨y1, y2, y3, y4, y5, y6, y7, y8, y9⟩
        first
          | omega
          | (have y9 : gN (lvG K R P p.toNat r.toNat s) ≤ 6000 - pMd P := y9; omega)
          | (have y10 := hgi.mp y8; exact absurd (hv2.mpr y10.2) (by rw [hc107]; decide))
          | (have y10 := hgi.mp y8; exact absurd (hv1.mpr y10.1) (by rw [hc95]; decide))
      · refine Ex_iload_n d_to_grow_28 rfl ?_
        refine Ex_iconst d_to_grow_29 ic_5 ?_
        refine Ex_icmp_leZ (w) ((5)) 35 d_to_grow_30 rfl rfl (by decide) (by omega) (by omega) (fun hc30 => ?_) (fun hc30 => ?_)
        · obtain ⟨s, rfl⟩ : ∃ s : Nat, w = (s : Int) := ⟨w.toNat, by omega⟩
          simp only [← nIJ]
          have hsR := pw_b (a := rR R r.toNat) (by omega) (show s ≤ 5 by omega)
          have hsC := pw_b (a := rC R r.toNat) (by omega) (show s ≤ 5 by omega)
          have hL0 := lv0_ok hQ hok
          have hb60 : (pPat P p.toNat).length * rR R r.toNat ^ s ≤ 60 * 1024 := mul_le hlen hsR.2
          have hgi := gr_iff (K := K) hRO (show r.toNat < R.1 by omega) hL0 s
          obtain ⟨q1, q2, q3⟩ := lv_sz K R r.toNat (lv0 P (pPat P p.toNat)) s
          have q1 : gN (lvG K R P p.toNat r.toNat s) = (pPat P p.toNat).length * rR R r.toNat ^ s := q1
          refine Ex_aload d_to_grow_35 rfl ?_
          refine Ex_getIE (y := (nI (rR R r.toNat))) d_to_grow_37 pf_to_279 rfl hx9.2.1.2.1 hx9.2.2.1 ?_
          refine Ex_iload_n d_to_grow_40 rfl ?_
          refine Ex_pS2 (v := .int (nI ((rR R r.toNat) ^ s))) d_to_grow_41 pk_to_grow_280 (to_power_s (by omega) (by omega)) ?_
          refine Ex_istore [some (.ref 0), some (.int (J (p))), some (.int (J (r))), some (.int (nI (s))), some (.ref (x)), some (.ref (a)), some (.int (nI ((rR R r.toNat) ^ s))), none, none, none] d_to_grow_44 (Nat.le_of_ble_eq_true rfl) rfl ?_
          refine Ex_aload d_to_grow_46 rfl ?_
          refine Ex_getIE (y := (nI (rC R r.toNat))) d_to_grow_48 pf_to_283 rfl hx9.2.1.2.1 hx9.2.2.2.1 ?_
          refine Ex_iload_n d_to_grow_51 rfl ?_
          refine Ex_pS2 (v := .int (nI ((rC R r.toNat) ^ s))) d_to_grow_52 pk_to_grow_280 (to_power_s (by omega) (by omega)) ?_
          refine Ex_istore [some (.ref 0), some (.int (J (p))), some (.int (J (r))), some (.int (nI (s))), some (.ref (x)), some (.ref (a)), some (.int (nI ((rR R r.toNat) ^ s))), some (.int (nI ((rC R r.toNat) ^ s))), none, none] d_to_grow_55 (Nat.le_of_ble_eq_true rfl) rfl ?_
          refine Ex_aload_n d_to_grow_57 rfl ?_
          refine Ex_getIE (y := (nI (pNp P))) d_to_grow_58 pf_to_128 rfl (t_0 hs) hP.2.1.1 ?_
          refine Ex_bipush d_to_grow_61 bp_16 ?_
          refine Ex_icmp_geN (pNp P) (16) 84 d_to_grow_63 rfl rfl rfl (by omega) (by omega) (fun hc63 => ?_) (fun hc63 => ?_)
          · refine Ex_iconst d_to_grow_84 ic_m1 ?_
            refine Ex_ireturn d_to_grow_85 rfl ?_
            refine Or.inl ⟨?_, rfl, Fr.rf⟩
            rintro ⟨y1, y2, y3, y4, y5, y6, y7, y8, y9⟩
            first
              | omega
              | (have y9 : gN (lvG K R P p.toNat r.toNat s) ≤ 6000 - pMd P := y9; omega)
              | (have y10 := hgi.mp y8; exact absurd (hv2.mpr y10.2) (by rw [hc107]; decide))
              | (have y10 := hgi.mp y8; exact absurd (hv1.mpr y10.1) (by rw [hc95]; decide))
          · refine Ex_aload d_to_grow_66 rfl ?_
            refine Ex_getIE (y := (nI ((pPat P p.toNat).length))) d_to_grow_68 pf_to_143 rfl hB.1.1 hB.2.1 ?_
            refine Ex_iload d_to_grow_71 rfl ?_
            refine Ex_imulN ((pPat P p.toNat).length) ((rR R r.toNat) ^ s) d_to_grow_73 rfl rfl ?_
            refine Ex_aload_n d_to_grow_74 rfl ?_
            refine Ex_getR (v := .ref 21) d_to_grow_75 pf_to_42 rfl (t_0 hs) (r_0_1 hs) ?_
            refine Ex_pV0 (v := .int (nI (6000 - pMd P))) d_to_grow_78 pk_to_grow_149 (t_21 hs) (rs_left_s hs hP.1 hQ) ?_
            refine Ex_icmp_leN (((pPat P p.toNat).length) * ((rR R r.toNat) ^ s)) (6000 - pMd P) 86 d_to_grow_81 rfl rfl rfl (by omega) (by omega) (fun hc81 => ?_) (fun hc81 => ?_)
            · refine Ex_aload d_to_grow_86 rfl ?_
              refine Ex_iload d_to_grow_88 rfl ?_
              refine Ex_iload d_to_grow_90 rfl ?_
              refine Ex_cV2 d_to_grow_92 pk_to_grow_284 hB.1.1 (pa_mayGrow_s hs hP.1 hQ hB hok (Src_0 P (pPat P p.toNat)) (D := rR R r.toNat ^ s) (A := rC R r.toNat ^ s) (by omega) (by omega)) ?_
              rintro rv hh ⟨hhe, v1, rfl, hv1⟩
              rw [hhe]
              show Ex S to_grow 95 [some (.ref 0), some (.int (J (p))), some (.int (J (r))), some (.int (nI (s))), some (.ref (x)), some (.ref (a)), some (.int (nI ((rR R r.toNat) ^ s))), some (.int (nI ((rC R r.toNat) ^ s))), none, none] [.int (bI (v1))] h _
              refine Ex_if_eqB (v1) 110 d_to_grow_95 rfl rfl (fun hc95 => ?_) (fun hc95 => ?_)
              · refine Ex_iconst d_to_grow_110 ic_m1 ?_
                refine Ex_ireturn d_to_grow_111 rfl ?_
                refine Or.inl ⟨?_, rfl, Fr.rf⟩
                rintro ⟨y1, y2, y3, y4, y5, y6, y7, y8, y9⟩
                first
                  | omega
                  | (have y9 : gN (lvG K R P p.toNat r.toNat s) ≤ 6000 - pMd P := y9; omega)
                  | (have y10 := hgi.mp y8; exact absurd (hv2.mpr y10.2) (by rw [hc107]; decide))
                  | (have y10 := hgi.mp y8; exact absurd (hv1.mpr y10.1) (by rw [hc95]; decide))
              · refine Ex_aload_n d_to_grow_98 rfl ?_
                refine Ex_aload d_to_grow_99 rfl ?_
                refine Ex_aload d_to_grow_101 rfl ?_
                refine Ex_iload_n d_to_grow_103 rfl ?_
                refine Ex_cV3 d_to_grow_104 pk_to_grow_287 (t_0 hs) (to_growsStraight_s hs hK hO hRO (show r.toNat < R.1 by omega) hx9 hP.1 hQ hB hok (Src_0 P (pPat P p.toNat)) (show s ≤ 5 by omega)) ?_
                rintro rv hh2 ⟨hhe2, v2, rfl, hv2⟩
                rw [hhe2]
                show Ex S to_grow 107 [some (.ref 0), some (.int (J (p))), some (.int (J (r))), some (.int (nI (s))), some (.ref (x)), some (.ref (a)), some (.int (nI ((rR R r.toNat) ^ s))), some (.int (nI ((rC R r.toNat) ^ s))), none, none] [.int (bI (v2))] h _
                refine Ex_if_neB (v2) 112 d_to_grow_107 rfl rfl (fun hc107 => ?_) (fun hc107 => ?_)
                · have hokA : ∀ t, t < s → okLv R r.toNat (lvN K R r.toNat (lv0 P (pPat P p.toNat)) t) := hgi.mpr ⟨hv1.mp hc95, hv2.mp hc107⟩
                  refine Ex_new (ci := 6) d_to_grow_112 rfl pc_to_46 ?_
                  have hs1 : HT (mNew h 16 3) := HT_new hs _ _
                  refine Ex_dup rfl d_to_grow_115 ?_
                  refine Ex_aload_n d_to_grow_116 rfl ?_
                  refine Ex_getR (v := .ref 21) d_to_grow_117 pf_to_42 rfl (t_0 hs1) (r_0_1 hs1) ?_
                  refine Ex_cI1 d_to_grow_120 pk_to_grow_132 (pa_init_s (h := mNew h 16 3) (a := mN h) (mT_new_self h 16 3)) ?_
                  rintro rv hh3 ⟨rfl, rfl⟩
                  rw [mN_new h 16 3]
                  obtain ⟨hsN, fN, hBN, gN0⟩ := hNP_s hs
                  obtain ⟨oY, hYN⟩ := yNP_s hs (Y := Y) (p := pNp P)
                  have hPN : PC P (yNP Y h (pNp P)) (hNP h) := PC_fr hs fN Wal_P oY hP
                  show Ex S to_grow 123 [some (.ref 0), some (.int (J (p))), some (.int (J (r))), some (.int (nI (s))), some (.ref (x)), some (.ref (a)), some (.int (nI ((rR R r.toNat) ^ s))), some (.int (nI ((rC R r.toNat) ^ s))), none, none] [.ref ((mN h))] (hNP h) _
                  refine Ex_astore [some (.ref 0), some (.int (J (p))), some (.int (J (r))), some (.int (nI (s))), some (.ref (x)), some (.ref (a)), some (.int (nI ((rR R r.toNat) ^ s))), some (.int (nI ((rC R r.toNat) ^ s))), some (.ref ((mN h))), none] d_to_grow_123 (Nat.le_of_ble_eq_true rfl) rfl ?_
                  refine Ex_iconst d_to_grow_125 ic_0 ?_
                  refine Ex_istore [some (.ref 0), some (.int (J (p))), some (.int (J (r))), some (.int (nI (s))), some (.ref (x)), some (.ref (a)), some (.int (nI ((rR R r.toNat) ^ s))), some (.int (nI ((rC R r.toNat) ^ s))), some (.ref ((mN h))), some (.int (0))] d_to_grow_126 (Nat.le_of_ble_eq_true rfl) rfl ?_
                  have lx := mT_lt hx.2.2.1.1
                  have ly := mT_lt hx.2.2.1.2.2.2
                  have la := mT_lt hx9.2.1.2.1
                  have lb := mT_lt hx9.2.1.2.2.2.2.2.1
                  refine to_grow_L hsN (KC_fr hs fN (by intro u k; unfold WKC Wal; omega) hK) hO hRO (show r.toNat < R.1 by omega) (RuC1_fr hs fN (by unfold Wal; omega) (fun k => by have := hx9.1.1.1; unfold Wal; omega) (fun k => by have := hx9.1.2.1.1; unfold Wal; omega) oY hx9) hPN hQ (show p.toNat < pNp P by omega) (PaC1_fr hs fN (by unfold Wal; omega) (fun k => by unfold Wal; omega) (fun k => by unfold Wal; omega) oY hx) (s := s) (by omega) hokA (by omega) hYN (Nat.le_refl _) ⟨by omega, by omega, by omega, by omega, by omega, by omega, by omega, by omega⟩ ⟨hBN.1.1, hBN.1.2.2.2⟩ (fun h1 hI => ?_) ((pPat P p.toNat).length * (rR R r.toNat) ^ s) 0 (by omega) (hNP h) ⟨_, OwE.rf, hPN, hBN, Fr.rf, rfl, Nat.le_refl _⟩
                  obtain ⟨Y1, oY1, hP1, hB2, f1, g1⟩ := hI
                  have hs1 : HT h1 := f1.ht hsN (fun q hq z => z.elim (WRx_st _ q hq) (Wab_st hYN.1 hYN.2.1 q hq))
                  obtain ⟨g2, g3, g4, g5⟩ := grR_s P (lvN K R r.toNat (lv0 P (pPat P p.toNat)) s) ((pPat P p.toNat).length * rR R r.toNat ^ s)
                  refine Ex_aload_n d_to_grow_165 rfl ?_
                  refine Ex_aload d_to_grow_166 rfl ?_
                  refine Ex_cV1 d_to_grow_168 pk_to_grow_135 (t_0 hs1) (to_keep_s hs1 hP1.2.1 (by rw [g3]; omega) hB2 ⟨hYN.1, hYN.2.1, by rw [g3, oY1 _ (mT_lt hBN.1.1)]; exact hYN.2.2.1, by rw [g3, oY1 _ (mT_lt hBN.1.2.2.2)]; exact hYN.2.2.2⟩) ?_
                  rintro rv h9 ⟨rfl, hK9, f9⟩
                  have f9 : Fr Wkp _ h9 := f9
                  rw [g3]
                  show Ex S to_grow 171 [some (.ref 0), some (.int (J (p))), some (.int (J (r))), some (.int (nI (s))), some (.ref (x)), some (.ref (a)), some (.int (nI ((rR R r.toNat) ^ s))), some (.int (nI ((rC R r.toNat) ^ s))), some (.ref ((mN h))), some (.int (nI ((pPat P p.toNat).length * (rR R r.toNat) ^ s)))] [.int (nI (pNp P))] h9 _
                  refine Ex_ireturn d_to_grow_171 rfl ?_
                  have hn74 := HT_n hs
                  refine Or.inr ⟨⟨by omega, by omega, by omega, by omega, by omega, by omega, by omega, hokA, show gN (lvG K R P p.toNat r.toNat s) ≤ _ by rw [q1]; omega⟩, rfl, ⟨⟨Y1, (fun k hk => by rw [oY1 k (by have := fN.le; omega)]; exact oY k hk), ?_⟩, ?_⟩, ?_⟩
                  · have z := PC_kp hs1 hP1 f9 hK9
                    show PC (newPat (grR P (lvG K R P p.toNat r.toNat s) (gN (lvG K R P p.toNat r.toNat s))) (rgL (pMd P) (gN (lvG K R P p.toNat r.toNat s)))) Y1 h9
                    rw [q1]
                    exact z
                  · show Gr (2 + gN (lvG K R P p.toNat r.toNat s)) (63 + 60 * gN (lvG K R P p.toNat r.toNat s)) h h9
                    rw [q1]
                    exact (gN0.tr g1).tr (Gr.of f9 (by unfold Wkp; omega))
                  · refine ((fN.mono Wal_C).trN f1 (by omega) (fun u k hu w => ?_)).tr (f9.mono Wkp_C)
                    rcases w with w | w
                    · refine WRx_C u k ?_
                      rcases w with w | w
                      · exact Or.inl w
                      · exact Or.inr ⟨w.1, by rw [← oY u hu]; exact w.2⟩
                    · exact absurd w (by unfold Wab; omega)
                · refine Ex_iconst d_to_grow_110 ic_m1 ?_
                  refine Ex_ireturn d_to_grow_111 rfl ?_
                  refine Or.inl ⟨?_, rfl, Fr.rf⟩
                  rintro ⟨y1, y2, y3, y4, y5, y6, y7, y8, y9⟩
                  first
                    | omega
                    | (have y9 : gN (lvG K R P p.toNat r.toNat s) ≤ 6000 - pMd P := y9; omega)
                    | (have y10 := hgi.mp y8; exact absurd (hv2.mpr y10.2) (by rw [hc107]; decide))
                    | (have y10 := hgi.mp y8; exact absurd (hv1.mpr y10.1) (by rw [hc95]; decide))
            · refine Ex_iconst d_to_grow_84 ic_m1 ?_
              refine Ex_ireturn d_to_grow_85 rfl ?_
              refine Or.inl ⟨?_, rfl, Fr.rf⟩
              rintro ⟨y1, y2, y3, y4, y5, y6, y7, y8, y9⟩
              first
                | omega
                | (have y9 : gN (lvG K R P p.toNat r.toNat s) ≤ 6000 - pMd P := y9; omega)
                | (have y10 := hgi.mp y8; exact absurd (hv2.mpr y10.2) (by rw [hc107]; decide))
                | (have y10 := hgi.mp y8; exact absurd (hv1.mpr y10.1) (by rw [hc95]; decide))
        · refine Ex_iconst d_to_grow_33 ic_m1 ?_
          refine Ex_ireturn d_to_grow_34 rfl ?_
          refine Or.inl ⟨?_, rfl, Fr.rf⟩
          rintro ⟨y1, y2, y3, y4, y5, y6, y7, y8, y9⟩
          first
            | omega
            | (have y9 : gN (lvG K R P p.toNat r.toNat s) ≤ 6000 - pMd P := y9; omega)
            | (have y10 := hgi.mp y8; exact absurd (hv2.mpr y10.2) (by rw [hc107]; decide))
            | (have y10 := hgi.mp y8; exact absurd (hv1.mpr y10.1) (by rw [hc95]; decide))
    · obtain ⟨x, y, hx⟩ := hP.2.1.2 p.toNat (by omega)
      have hB := hx.2.2
      have hok := hQ.2.2.2.1 p.toNat (by omega)
      have hlen := hok.1
      have hx74 := hx.1.1
      have hy74 := hx.1.2.1
      refine Ex_aload_n d_to_grow_0 rfl ?_
      refine Ex_iload_n d_to_grow_1 rfl ?_
      refine Ex_pV1 (v := .ref (x)) d_to_grow_2 pk_to_grow_139 (t_0 hs) (to_patternOf_z hs hP hQ hpp hx) ?_
      refine Ex_astore [some (.ref 0), some (.int (J (p))), some (.int (J (r))), some (.int (J (w))), some (.ref (x)), none, none, none, none, none] d_to_grow_5 (Nat.le_of_ble_eq_true rfl) rfl ?_
      refine Ex_aload_n d_to_grow_7 rfl ?_
      refine Ex_iload_n d_to_grow_8 rfl ?_
      refine Ex_pV1 (v := .null) d_to_grow_9 pk_to_grow_269 (t_0 hs) (to_ruleOf_n hs hR hRO hr hrr) ?_
      refine Ex_astore0 [some (.ref 0), some (.int (J (p))), some (.int (J (r))), some (.int (J (w))), some (.ref (x)), some (.null), none, none, none, none] d_to_grow_12 (Nat.le_of_ble_eq_true rfl) rfl ?_
      refine Ex_aload d_to_grow_14 rfl ?_
      refine Ex_ifnull d_to_grow_16 ?_
      refine Ex_aload0 d_to_grow_19 rfl ?_
      refine Ex_ifnull0 33 d_to_grow_21 rfl ?_
      refine Ex_iconst d_to_grow_33 ic_m1 ?_
      refine Ex_ireturn d_to_grow_34 rfl ?_
      exact Or.inl ⟨fun z => by omega, rfl, Fr.rf⟩
  · by_cases hrr : 0 ≤ r ∧ r < R.1
    · obtain ⟨a, b, c, d, hx9⟩ := hR.2 r.toNat (by omega)
      refine Ex_aload_n d_to_grow_0 rfl ?_
      refine Ex_iload_n d_to_grow_1 rfl ?_
      refine Ex_pV1 (v := .null) d_to_grow_2 pk_to_grow_139 (t_0 hs) (to_patternOf_n hs hP hQ hp hpp) ?_
      refine Ex_astore0 [some (.ref 0), some (.int (J (p))), some (.int (J (r))), some (.int (J (w))), some (.null), none, none, none, none, none] d_to_grow_5 (Nat.le_of_ble_eq_true rfl) rfl ?_
      refine Ex_aload_n d_to_grow_7 rfl ?_
      refine Ex_iload_n d_to_grow_8 rfl ?_
      refine Ex_pV1 (v := .ref (a)) d_to_grow_9 pk_to_grow_269 (t_0 hs) (to_ruleOf_z hs hR hRO hrr hx9) ?_
      refine Ex_astore [some (.ref 0), some (.int (J (p))), some (.int (J (r))), some (.int (J (w))), some (.null), some (.ref (a)), none, none, none, none] d_to_grow_12 (Nat.le_of_ble_eq_true rfl) rfl ?_
      refine Ex_aload0 d_to_grow_14 rfl ?_
      refine Ex_ifnull0 33 d_to_grow_16 rfl ?_
      refine Ex_iconst d_to_grow_33 ic_m1 ?_
      refine Ex_ireturn d_to_grow_34 rfl ?_
      exact Or.inl ⟨fun z => by omega, rfl, Fr.rf⟩
    · refine Ex_aload_n d_to_grow_0 rfl ?_
      refine Ex_iload_n d_to_grow_1 rfl ?_
      refine Ex_pV1 (v := .null) d_to_grow_2 pk_to_grow_139 (t_0 hs) (to_patternOf_n hs hP hQ hp hpp) ?_
      refine Ex_astore0 [some (.ref 0), some (.int (J (p))), some (.int (J (r))), some (.int (J (w))), some (.null), none, none, none, none, none] d_to_grow_5 (Nat.le_of_ble_eq_true rfl) rfl ?_
      refine Ex_aload_n d_to_grow_7 rfl ?_
      refine Ex_iload_n d_to_grow_8 rfl ?_
      refine Ex_pV1 (v := .null) d_to_grow_9 pk_to_grow_269 (t_0 hs) (to_ruleOf_n hs hR hRO hr hrr) ?_
      refine Ex_astore0 [some (.ref 0), some (.int (J (p))), some (.int (J (r))), some (.int (J (w))), some (.null), some (.null), none, none, none, none] d_to_grow_12 (Nat.le_of_ble_eq_true rfl) rfl ?_
      refine Ex_aload0 d_to_grow_14 rfl ?_
      refine Ex_ifnull0 33 d_to_grow_16 rfl ?_
      refine Ex_iconst d_to_grow_33 ic_m1 ?_
      refine Ex_ireturn d_to_grow_34 rfl ?_
      exact Or.inl ⟨fun z => by omega, rfl, Fr.rf⟩
