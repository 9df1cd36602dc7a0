/-! GROWN; the reference: block, grown. -/
abbrev LV : Type := Nat × (Nat → Nat) × (Nat → Int) × (Nat → Nat → Tl)
def gN (l : LV) : Nat := l.1
def gL (l : LV) : Nat → Nat := l.2.1
def gO (l : LV) : Nat → Int := l.2.2.1
def gX (l : LV) : Nat → Nat → Tl := l.2.2.2
def shT (c : Tl) (s : Nat) : Tl := match c with
  | none => none
  | some (k, m, _) => some (k, m, s)
def bkT (K : SK) (R : SR) (r : Nat) (c : Tl) (i j : Nat) : Tl := match c with
  | none => none
  | some (k, m, s) => shT (mvT K (rB R r (16 * k + 4 * frI m (rR R r) (rC R r) i j + frJ m (rR R r) (rC R r) i j)) m) s
def lvS (K : SK) (R : SR) (r : Nat) (l : LV) : LV := (gN l * rR R r, fun i => gL l (i / rR R r) * rC R r, fun i => gO l (i / rR R r) * rC R r, fun i k => bkT K R r (gX l (i / rR R r) (k / rC R r)) (i % rR R r) (k % rC R r))
def lv0 (P : SP) (l : List Nat) : LV := (l.length, fun i => pL P (l.getD i 0), fun i => pO P (l.getD i 0), fun i k => pC P (l.getD i 0) k)
def lvN (K : SK) (R : SR) (r : Nat) (l : LV) : Nat → LV
  | 0 => l
  | t + 1 => lvS K R r (lvN K R r l t)
def oddT (c : Tl) : Prop := match c with
  | none => False
  | some (_, m, _) => m % 2 = 1
def okLr (R : SR) (r : Nat) (l : LV) (i : Nat) : Prop := (gL l i * rC R r ≤ 60 ∧ -30 ≤ gO l i * rC R r ∧ gO l i * rC R r ≤ 30) ∧ ∀ k, k < gL l i → ¬ (oddT (gX l i k) ∧ rR R r ≠ rC R r)
def okLv (R : SR) (r : Nat) (l : LV) : Prop := gN l * rR R r ≤ 60 ∧ ∀ i, i < gN l → okLr R r l i
def LO (n : Nat) (l : LV) : Prop := gN l ≤ 60 ∧ ∀ i, i < gN l → (gL l i ≤ 60 ∧ -30 ≤ gO l i ∧ gO l i ≤ 30) ∧ ∀ k, k < gL l i → okT n (gX l i k)
theorem shT_ok {n s : Nat} {c : Tl} (h : okT n c) (hs : s < 65536) : okT n (shT c s) := by
  match c, h with
  | none, _ => trivial
  | some (k, m, s), h => exact ⟨h.1, h.2.1, hs⟩
theorem fr_lt' {R C m i j : Nat} (hi : i < R) (hj : j < C) (hm : ¬ (m % 2 = 1 ∧ R ≠ C)) : i < tR m R C ∧ j < tC m R C := by
  unfold tR tC
  split
  · exact ⟨hi, hj⟩
  · have : R = C := by
      by_cases z : R = C
      · exact z
      · exact absurd ⟨by omega, z⟩ hm
    subst this
    exact ⟨hi, hj⟩
theorem bkT_ok {K : SK} (hO : KO K) {R : SR} (hRO : RO K.1 R) {r : Nat} (hr : r < R.1) {c : Tl} (hc : okT K.1 c) {i j : Nat} (hi : i < rR R r) (hj : j < rC R r) (hm : ¬ (oddT c ∧ rR R r ≠ rC R r)) : okT K.1 (bkT K R r c i j) := by
  match c, hc, hm with
  | none, _, _ => trivial
  | some (k, m, s), hc, hm =>
    obtain ⟨h1, h2⟩ := fr_lt' (m := m) hi hj hm
    obtain ⟨h3, h4⟩ := fr_lt h1 h2
    have hz := hRO.2 r hr
    have hk := hc.1
    have h40 := hO.1
    exact shT_ok (mvT_ok hO (hz.2 _ (by have := hz.1; omega))) hc.2.2
theorem lvS_ok {K : SK} (hO : KO K) {R : SR} (hRO : RO K.1 R) {r : Nat} (hr : r < R.1) {l : LV} (hl : LO K.1 l) (hk : okLv R r l) : LO K.1 (lvS K R r l) := by
  have hz := (hRO.2 r hr).1
  refine ⟨hk.1, fun i hi => ?_⟩
  have hi : i < gN l * rR R r := hi
  obtain ⟨h1, h2, -⟩ := dm_lt hi
  have ho := hk.2 _ h1
  refine ⟨ho.1, fun k hk' => ?_⟩
  have hk' : k < gL l (i / rR R r) * rC R r := hk'
  obtain ⟨h3, h4, -⟩ := dm_lt hk'
  exact bkT_ok hO hRO hr ((hl.2 _ h1).2 _ h3) h2 h4 (ho.2 _ h3)
theorem lv0_ok {n : Nat} {P : SP} (hQ : PO n P) {l : List Nat} (hl : okL (pMd P) l) : LO n (lv0 P l) := by
  refine ⟨hl.1, fun i hi => ?_⟩
  have := hQ.2.1 _ (hl.2 _ (getD_mem (show i < l.length from hi)))
  exact ⟨⟨this.1, this.2.1, this.2.2.1⟩, this.2.2.2⟩
theorem lvN_ok {K : SK} (hO : KO K) {R : SR} (hRO : RO K.1 R) {r : Nat} (hr : r < R.1) {l : LV} (hl : LO K.1 l) : ∀ t, (∀ u, u < t → okLv R r (lvN K R r l u)) → LO K.1 (lvN K R r l t)
  | 0, _ => hl
  | t + 1, h => lvS_ok hO hRO hr (lvN_ok hO hRO hr hl t (fun u hu => h u (by omega))) (h t (by omega))
def Wgw (a k : Nat) : Prop := a = 59 ∨ a = 60 ∨ a = 61 ∨ (a = 38 ∧ (k = 18 ∨ k = 19))
theorem Wgw_st : ∀ q ∈ statR, ¬ Wgw q.1 q.2.1 := by unfold Wgw; decide
def WL (sd : Nat) (l : LV) (h : mj_H) : Prop := ∀ i, i < gN l → mI h 60 (60 * sd + i) = nI (gL l i) ∧ mI h 61 (60 * sd + i) = J (gO l i) ∧ ∀ k, k < gL l i → mI h 59 (60 * (60 * sd + i) + k) = eM (gX l i k)
theorem RM_g {R : SR} {h h' : mj_H} (hs : HT h) (f : Fr Wgw h h') (hR : RM R h) : RM R h' := RM_fr hs f (by intro a k; unfold WRuM Wgw; omega) hR
theorem KM_g {K : SK} {h h' : mj_H} (hs : HT h) (f : Fr Wgw h h') (hR : KM K h) : KM K h' := KM_fr hs f (by intro a k; unfold WKM Wgw; omega) hR
theorem rm_block_s {S : mj_S} {h : mj_H} (hs : HT h) {K : SK} (hK : KM K h) (hO : KO K) {R : SR} (hR : RM R h) (hRO : RO K.1 R) {r : Nat} (hr : r < R.1) {c : Tl} (hc : okT K.1 c) {i j : Nat} (hi : i < rR R r) (hj : j < rC R r) (hm : ¬ (oddT c ∧ rR R r ≠ rC R r)) : Cl S rm_block [.ref 38, .int (nI r), .int (eM c), .int (nI i), .int (nI j)] h (fun rv h' => rv = some (.int (eM (bkT K R r c i j))) ∧ Fr (fun a k => a = 38 ∧ (k = 18 ∨ k = 19)) h h') := by
  obtain ⟨hz1, hz2⟩ := hRO.2 r hr
  obtain ⟨hv1, hv2, hv3⟩ := hR.2 r hr
  have h40 := hO.1
  have h8 := hRO.1
  match c, hc, hm with
  | none, _, _ =>
    show Ex S rm_block 0 [some (.ref 38), some (.int (nI (r))), some (.int (0)), some (.int (nI (i))), some (.int (nI (j))), none] [] h _
    refine Ex_iload_n d_rm_block_0 rfl ?_
    refine Ex_if_neN (0) 6 d_rm_block_1 rfl rfl (by omega) (fun hc1 => ?_) (fun hc1 => ?_)
    · exact absurd hc1 (by decide)
    · refine Ex_iconst d_rm_block_4 ic_0 ?_
      refine Ex_ireturn d_rm_block_5 rfl ?_
      exact ⟨rfl, Fr.rf⟩
  | some (k, m, s), hc, hm =>
    obtain ⟨g1, g2⟩ := fr_lt' (m := m) hi hj hm
    obtain ⟨g3, g4⟩ := fr_lt g1 g2
    have hk1 := hc.1
    have hm8 := hc.2.1
    have hs6 := hc.2.2
    have hk40 : k < 40 := by omega
    show Ex S rm_block 0 [some (.ref 38), some (.int (nI (r))), some (.int (nI (s * 65536 + (8 * k + m + 1)))), some (.int (nI (i))), some (.int (nI (j))), none] [] h _
    refine Ex_iload_n d_rm_block_0 rfl ?_
    refine Ex_if_ne 6 d_rm_block_1 rfl (fun hc1 => ?_) (fun hc1 => ?_)
    · refine Ex_aload_n d_rm_block_6 rfl ?_
      refine Ex_iload_n d_rm_block_7 rfl ?_
      refine Ex_pS1 (v := .int (nI (m))) d_rm_block_8 pk_rm_block_160 (rm_moveOf_s hk40 hm8 hs6) ?_
      refine Ex_aload_n d_rm_block_11 rfl ?_
      refine Ex_getR (v := .ref 56) d_rm_block_12 pf_rm_64 rfl (t_38 hs) (r_38_26 hs) ?_
      refine Ex_iload_n d_rm_block_15 rfl ?_
      refine Ex_ialoadN (a := r) d_rm_block_16 (t_56 hs) rfl (by omega) (by decide) hv1 ?_
      refine Ex_aload_n d_rm_block_17 rfl ?_
      refine Ex_getR (v := .ref 57) d_rm_block_18 pf_rm_67 rfl (t_38 hs) (r_38_27 hs) ?_
      refine Ex_iload_n d_rm_block_21 rfl ?_
      refine Ex_ialoadN (a := r) d_rm_block_22 (t_57 hs) rfl (by omega) (by decide) hv2 ?_
      refine Ex_iload_n d_rm_block_23 rfl ?_
      refine Ex_iload d_rm_block_24 rfl ?_
      refine Ex_cV5 d_rm_block_26 pk_rm_block_227 (t_38 hs) (rm_comesFrom_s hs hm8 (by omega) (by omega) g1 g2) ?_
      rintro rv h1 ⟨rfl, w1, w2, f1⟩
      have fg : Fr Wgw h h1 := f1.mono (by intro a k; unfold Wgw; omega)
      have hs1 : HT h1 := fg.ht hs Wgw_st
      have hK1 := KM_g hs fg hK
      have hR1 := RM_g hs fg hR
      have hcell := (hR1.2 r hr).2.2 (16 * k + 4 * frI m (rR R r) (rC R r) i j + frJ m (rR R r) (rC R r) i j) (by omega)
      have hokc := hz2 (16 * k + 4 * frI m (rR R r) (rC R r) i j + frJ m (rR R r) (rC R r) i j) (by omega)
      show Ex S rm_block 29 [some (.ref 38), some (.int (nI (r))), some (.int (nI (s * 65536 + (8 * k + m + 1)))), some (.int (nI (i))), some (.int (nI (j))), none] [] h1 _
      refine Ex_aload_n d_rm_block_29 rfl ?_
      refine Ex_aload_n d_rm_block_30 rfl ?_
      refine Ex_getR (v := .ref 58) d_rm_block_31 pf_rm_70 rfl (t_38 hs1) (r_38_28 hs1) ?_
      refine Ex_sipush d_rm_block_34 sp_640 ?_
      refine Ex_iload_n d_rm_block_37 rfl ?_
      refine Ex_imulN (640) (r) d_rm_block_38 rfl rfl ?_
      refine Ex_bipush d_rm_block_39 bp_16 ?_
      refine Ex_iload_n d_rm_block_41 rfl ?_
      refine Ex_pS1 (v := .int (nI (k))) d_rm_block_42 pk_rm_block_156 (rm_kindOf_s hk40 hm8 hs6) ?_
      refine Ex_imulN (16) (k) d_rm_block_45 rfl rfl ?_
      refine Ex_iaddN (640 * r) (16 * k) d_rm_block_46 rfl rfl ?_
      refine Ex_iconst d_rm_block_47 ic_4 ?_
      refine Ex_aload_n d_rm_block_48 rfl ?_
      refine Ex_getIE d_rm_block_49 pf_rm_215 rfl (t_38 hs1) w1 ?_
      refine Ex_imulN (4) (frI m (rR R r) (rC R r) i j) d_rm_block_52 rfl rfl ?_
      refine Ex_iaddN ((640 * r) + (16 * k)) (4 * (frI m (rR R r) (rC R r) i j)) d_rm_block_53 rfl rfl ?_
      refine Ex_aload_n d_rm_block_54 rfl ?_
      refine Ex_getIE d_rm_block_55 pf_rm_218 rfl (t_38 hs1) w2 ?_
      refine Ex_iaddN (((640 * r) + (16 * k)) + (4 * (frI m (rR R r) (rC R r) i j))) (frJ m (rR R r) (rC R r) i j) d_rm_block_58 rfl rfl ?_
      refine Ex_ialoadN (a := (((640 * r) + (16 * k)) + (4 * (frI m (rR R r) (rC R r) i j))) + (frJ m (rR R r) (rC R r) i j)) (y := (eM (rB R r (16 * k + 4 * frI m (rR R r) (rC R r) i j + frJ m (rR R r) (rC R r) i j)))) d_rm_block_59 (t_58 hs1) rfl (by omega) (by decide) (by rw [← hcell]; congr 1; omega) ?_
      refine Ex_iload_n d_rm_block_60 rfl ?_
      refine Ex_pS1 (v := .int (nI (m))) d_rm_block_61 pk_rm_block_160 (rm_moveOf_s hk40 hm8 hs6) ?_
      refine Ex_pV2 (v := .int (eM (mvT K (rB R r (16 * k + 4 * frI m (rR R r) (rC R r) i j + frJ m (rR R r) (rC R r) i j)) m))) d_rm_block_64 pk_rm_block_231 (t_38 hs1) (rm_moved_s hs1 hK1 hO hokc hm8) ?_
      refine Ex_istore [some (.ref 38), some (.int (nI (r))), some (.int (nI (s * 65536 + (8 * k + m + 1)))), some (.int (nI (i))), some (.int (nI (j))), some (.int (eM (mvT K (rB R r (16 * k + 4 * frI m (rR R r) (rC R r) i j + frJ m (rR R r) (rC R r) i j)) m)))] d_rm_block_67 (Nat.le_of_ble_eq_true rfl) rfl ?_
      match hd : rB R r (16 * k + 4 * frI m (rR R r) (rC R r) i j + frJ m (rR R r) (rC R r) i j), hokc with
      | none, _ =>
        show Ex S rm_block 69 [some (.ref 38), some (.int (nI (r))), some (.int (nI (s * 65536 + (8 * k + m + 1)))), some (.int (nI (i))), some (.int (nI (j))), some (.int (0))] [] h1 _
        refine Ex_iload d_rm_block_69 rfl ?_
        refine Ex_if_neN (0) 78 d_rm_block_71 rfl rfl (by omega) (fun hc71 => ?_) (fun hc71 => ?_)
        · exact absurd hc71 (by decide)
        · refine Ex_iconst d_rm_block_74 ic_0 ?_
          refine Ex_goto 95 d_rm_block_75 rfl ?_
          refine Ex_ireturn d_rm_block_95 rfl ?_
          refine ⟨?_, f1⟩
          show some (Value.int 0) = some (Value.int (eM (shT (mvT K (rB R r (16 * k + 4 * frI m (rR R r) (rC R r) i j + frJ m (rR R r) (rC R r) i j)) m) s)))
          rw [hd]
          rfl
      | some (k2, m2, s2), hokc =>
        have hk2 : k2 < 40 := by have := hokc.1; omega
        have hl8 : kLie K k2 (thn m2 m) < 8 := kLie_lt hO hokc.1
        have hs2 := hokc.2.2
        show Ex S rm_block 69 [some (.ref 38), some (.int (nI (r))), some (.int (nI (s * 65536 + (8 * k + m + 1)))), some (.int (nI (i))), some (.int (nI (j))), some (.int (nI (s2 * 65536 + (8 * k2 + kLie K k2 (thn m2 m) + 1))))] [] h1 _
        refine Ex_iload d_rm_block_69 rfl ?_
        refine Ex_if_ne 78 d_rm_block_71 rfl (fun hc71 => ?_) (fun hc71 => ?_)
        · refine Ex_iload d_rm_block_78 rfl ?_
          refine Ex_pS1 (v := .int (nI (k2))) d_rm_block_80 pk_rm_block_156 (rm_kindOf_s hk2 hl8 hokc.2.2) ?_
          refine Ex_iload d_rm_block_83 rfl ?_
          refine Ex_pS1 (v := .int (nI (kLie K k2 (thn m2 m)))) d_rm_block_85 pk_rm_block_160 (rm_moveOf_s hk2 hl8 hokc.2.2) ?_
          refine Ex_iload_n d_rm_block_88 rfl ?_
          refine Ex_pS1 (v := .int (J (sg s))) d_rm_block_89 pk_rm_block_163 (rm_shadeOf_s hk40 hm8 hs6) ?_
          refine Ex_pS3 (v := .int (eM (some (k2, kLie K k2 (thn m2 m), s)))) d_rm_block_92 pk_rm_block_166 (rm_cell_s hk2 hl8 hs6) ?_
          refine Ex_ireturn d_rm_block_95 rfl ?_
          refine ⟨?_, f1⟩
          show _ = some (Value.int (eM (shT (mvT K (rB R r (16 * k + 4 * frI m (rR R r) (rC R r) i j + frJ m (rR R r) (rC R r) i j)) m) s)))
          rw [hd]
          rfl
        · exact absurd (nI_inj32 (b := 0) (by omega) (by omega) hc71) (by omega)
    · exact absurd (nI_inj32 (b := 0) (by omega) (by omega) hc1) (by omega)
theorem rm_grown_L1 {S : mj_S} {Q : Option Value → mj_H → Prop} {h : mj_H} (hs : HT h) {K : SK} (hK : KM K h) (hO : KO K) {R : SR} (hR : RM R h) (hRO : RO K.1 R) {r : Nat} (hr : r < R.1) {l : LV} (hl : LO K.1 l) {sd : Nat} (hsd : sd ≤ 1) (hW : WL sd l h) (hmr : gN l * rR R r ≤ 60) {i : Nat} (hi : i < gN l) (hoi : gL l i * rC R r ≤ 60 ∧ -30 ≤ gO l i * rC R r ∧ gO l i * rC R r ≤ 30) (hall : ∀ x, x < i → gL l x * rC R r ≤ 60 ∧ -30 ≤ gO l x * rC R r ∧ gO l x * rC R r ≤ 30) {k : Nat} (hk0 : k < gL l i) (hmk : ¬ (oddT (gX l i k) ∧ rR R r ≠ rC R r))
    (kx : ∀ h1 : mj_H, ((Fr Wgw h h1 ∧ WL sd l h1 ∧ (∀ x, x < i * rR R r → mI h1 60 (60 * (1 - sd) + x) = nI (gL (lvS K R r l) x) ∧ mI h1 61 (60 * (1 - sd) + x) = J (gO (lvS K R r l) x) ∧ ∀ k, k < gL (lvS K R r l) x → mI h1 59 (60 * (60 * (1 - sd) + x) + k) = eM (gX (lvS K R r l) x k))) ∧ (∀ a, a < rR R r → ∀ x, x < k * rC R r → mI h1 59 (60 * (60 * (1 - sd) + (i * rR R r + a)) + x) = eM (gX (lvS K R r l) (i * rR R r + a) x)) ∧ ∀ y, y < rR R r * rC R r → mI h1 59 (60 * (60 * (1 - sd) + (i * rR R r + y / rC R r)) + (k * rC R r + y % rC R r)) = eM (gX (lvS K R r l) (i * rR R r + y / rC R r) (k * rC R r + y % rC R r))) → Ex S rm_grown 221 [some (.ref 38), some (.int (nI (r))), some (.int (nI (sd))), some (.int (nI (gN l))), some (.int (nI (rR R r))), some (.int (nI (rC R r))), some (.int (nI (i))), some (.int (nI (60 * sd + i))), some (.int (J (gO l i * ((rC R r : Nat) : Int)))), some (.int (nI (k))), some (.int (eM (gX l i k))), some (.int (nI (rR R r * rC R r))), none] [] h1 Q) : ∀ d n : Nat, n + d = rR R r * rC R r → ∀ h1 : mj_H, ((Fr Wgw h h1 ∧ WL sd l h1 ∧ (∀ x, x < i * rR R r → mI h1 60 (60 * (1 - sd) + x) = nI (gL (lvS K R r l) x) ∧ mI h1 61 (60 * (1 - sd) + x) = J (gO (lvS K R r l) x) ∧ ∀ k, k < gL (lvS K R r l) x → mI h1 59 (60 * (60 * (1 - sd) + x) + k) = eM (gX (lvS K R r l) x k))) ∧ (∀ a, a < rR R r → ∀ x, x < k * rC R r → mI h1 59 (60 * (60 * (1 - sd) + (i * rR R r + a)) + x) = eM (gX (lvS K R r l) (i * rR R r + a) x)) ∧ ∀ y, y < n → mI h1 59 (60 * (60 * (1 - sd) + (i * rR R r + y / rC R r)) + (k * rC R r + y % rC R r)) = eM (gX (lvS K R r l) (i * rR R r + y / rC R r) (k * rC R r + y % rC R r))) → Ex S rm_grown 146 [some (.ref 38), some (.int (nI (r))), some (.int (nI (sd))), some (.int (nI (gN l))), some (.int (nI (rR R r))), some (.int (nI (rC R r))), some (.int (nI (i))), some (.int (nI (60 * sd + i))), some (.int (J (gO l i * ((rC R r : Nat) : Int)))), some (.int (nI (k))), some (.int (eM (gX l i k))), some (.int (nI (n))), none] [] h1 Q := by
  obtain ⟨hz1, hz2⟩ := hRO.2 r hr
  have h40 := hO.1
  have h8 := hRO.1
  have hl60 := hl.1
  have hli := (hl.2 i hi).1
  have hir : i * rR R r + rR R r ≤ 60 := by have := Nat.mul_le_mul_right (rR R r) (show i + 1 ≤ gN l by omega); rw [Nat.add_mul, Nat.one_mul] at this; omega
  have hrc16 : rR R r * rC R r ≤ 4 * 4 := mul_le (by omega) (by omega)
  intro d
  induction d with
  | zero =>
    intro n hkk h1 hI
    obtain rfl : rR R r * rC R r = n := by omega
    refine Ex_iload d_rm_grown_146 rfl ?_
    refine Ex_iload d_rm_grown_148 rfl ?_
    refine Ex_iload d_rm_grown_150 rfl ?_
    refine Ex_imulN (rR R r) (rC R r) d_rm_grown_152 rfl rfl ?_
    refine Ex_icmp_geN (rR R r * rC R r) ((rR R r) * (rC R r)) 221 d_rm_grown_153 rfl rfl rfl (by omega) (by omega) (fun hc153 => ?_) (fun hc153 => ?_)
    · exact kx h1 hI
    · exfalso; omega
  | succ d ih =>
    intro n hkk h1 hI
    have f1 := hI.1.1
    have hs1 : HT h1 := f1.ht hs Wgw_st
    have hK1 := KM_g hs f1 hK
    have hR1 := RM_g hs f1 hR
    obtain ⟨hd1, hd2, hd3⟩ := dm_lt (show n < rR R r * rC R r by omega)
    have hkc : k * rC R r + rC R r ≤ 60 := by have := Nat.mul_le_mul_right (rC R r) (show k + 1 ≤ gL l i by omega); rw [Nat.add_mul, Nat.one_mul] at this; omega
    have hq0 : (0 : Int) ≤ (n : Int) / ((rC R r : Nat) : Int) := Int.ediv_nonneg (by omega) (by omega)
    have hcm1 : rR R r * i = i * rR R r := Nat.mul_comm _ _
    have hcm2 : rC R r * k = k * rC R r := Nat.mul_comm _ _
    refine Ex_iload d_rm_grown_146 rfl ?_
    refine Ex_iload d_rm_grown_148 rfl ?_
    refine Ex_iload d_rm_grown_150 rfl ?_
    refine Ex_imulN (rR R r) (rC R r) d_rm_grown_152 rfl rfl ?_
    refine Ex_icmp_geN (n) ((rR R r) * (rC R r)) 221 d_rm_grown_153 rfl rfl rfl (by omega) (by omega) (fun hc153 => ?_) (fun hc153 => ?_)
    · exfalso; omega
    · refine Ex_bipush d_rm_grown_156 bp_60 ?_
      refine Ex_iconst d_rm_grown_158 ic_1 ?_
      refine Ex_iload_n d_rm_grown_159 rfl ?_
      refine Ex_isubN (1) (sd) d_rm_grown_160 rfl rfl (by omega) ?_
      refine Ex_imulN (60) (1 - sd) d_rm_grown_161 rfl rfl ?_
      refine Ex_iload d_rm_grown_162 rfl ?_
      refine Ex_iload d_rm_grown_164 rfl ?_
      refine Ex_imulN (rR R r) (i) d_rm_grown_166 rfl rfl ?_
      refine Ex_iaddN (60 * (1 - sd)) ((rR R r) * i) d_rm_grown_167 rfl rfl ?_
      refine Ex_iload d_rm_grown_168 rfl ?_
      refine Ex_iload d_rm_grown_170 rfl ?_
      refine Ex_idivN (n) (rC R r) d_rm_grown_172 rfl rfl (by omega) (by omega) ?_
      refine Ex_iaddN ((60 * (1 - sd)) + ((rR R r) * i)) (n / (rC R r)) d_rm_grown_173 rfl rfl ?_
      refine Ex_istore [some (.ref 38), some (.int (nI (r))), some (.int (nI (sd))), some (.int (nI (gN l))), some (.int (nI (rR R r))), some (.int (nI (rC R r))), some (.int (nI (i))), some (.int (nI (60 * sd + i))), some (.int (J (gO l i * ((rC R r : Nat) : Int)))), some (.int (nI (k))), some (.int (eM (gX l i k))), some (.int (nI (n))), some (.int (nI (((60 * (1 - sd)) + ((rR R r) * i)) + (n / (rC R r)))))] d_rm_grown_174 (Nat.le_of_ble_eq_true rfl) rfl ?_
      refine Ex_aload_n d_rm_grown_176 rfl ?_
      refine Ex_getR (v := .ref 59) d_rm_grown_177 pf_rm_73 rfl (t_38 hs1) (r_38_30 hs1) ?_
      refine Ex_bipush d_rm_grown_180 bp_60 ?_
      refine Ex_iload d_rm_grown_182 rfl ?_
      refine Ex_imulN (60) (((60 * (1 - sd)) + ((rR R r) * i)) + (n / (rC R r))) d_rm_grown_184 rfl rfl ?_
      refine Ex_iload d_rm_grown_185 rfl ?_
      refine Ex_iload d_rm_grown_187 rfl ?_
      refine Ex_imulN (rC R r) (k) d_rm_grown_189 rfl rfl ?_
      refine Ex_iaddN (60 * (((60 * (1 - sd)) + ((rR R r) * i)) + (n / (rC R r)))) ((rC R r) * k) d_rm_grown_190 rfl rfl ?_
      refine Ex_iload d_rm_grown_191 rfl ?_
      refine Ex_iload d_rm_grown_193 rfl ?_
      refine Ex_iremN (n) (rC R r) d_rm_grown_195 rfl rfl (by omega) (by omega) ?_
      refine Ex_iaddN ((60 * (((60 * (1 - sd)) + ((rR R r) * i)) + (n / (rC R r)))) + ((rC R r) * k)) (n % (rC R r)) d_rm_grown_196 rfl rfl ?_
      refine Ex_aload_n d_rm_grown_197 rfl ?_
      refine Ex_iload_n d_rm_grown_198 rfl ?_
      refine Ex_iload d_rm_grown_199 rfl ?_
      refine Ex_iload d_rm_grown_201 rfl ?_
      refine Ex_iload d_rm_grown_203 rfl ?_
      refine Ex_idivN (n) (rC R r) d_rm_grown_205 rfl rfl (by omega) (by omega) ?_
      refine Ex_iload d_rm_grown_206 rfl ?_
      refine Ex_iload d_rm_grown_208 rfl ?_
      refine Ex_iremN (n) (rC R r) d_rm_grown_210 rfl rfl (by omega) (by omega) ?_
      refine Ex_cV4 d_rm_grown_211 pk_rm_grown_252 (t_38 hs1) (rm_block_s hs1 hK1 hO hR1 hRO hr ((hl.2 i hi).2 k hk0) hd1 hd2 hmk) ?_
      rintro rv h2 ⟨rfl, f2⟩
      have f2g : Fr Wgw h1 h2 := f2.mono (by intro a k; unfold Wgw; omega)
      have hnn := HT_n hs1
      have hs2 : HT h2 := f2g.ht hs1 Wgw_st
      show Ex S rm_grown 214 [some (.ref 38), some (.int (nI (r))), some (.int (nI (sd))), some (.int (nI (gN l))), some (.int (nI (rR R r))), some (.int (nI (rC R r))), some (.int (nI (i))), some (.int (nI (60 * sd + i))), some (.int (J (gO l i * ((rC R r : Nat) : Int)))), some (.int (nI (k))), some (.int (eM (gX l i k))), some (.int (nI (n))), some (.int (nI (((60 * (1 - sd)) + ((rR R r) * i)) + (n / (rC R r)))))] [.int (eM (bkT K R r (gX l i k) (n / rC R r) (n % rC R r))), .int (nI (((60 * (((60 * (1 - sd)) + ((rR R r) * i)) + (n / (rC R r)))) + ((rC R r) * k)) + (n % (rC R r)))), .ref 59] h2 _
      refine Ex_iastoreN (a := ((60 * (((60 * (1 - sd)) + ((rR R r) * i)) + (n / (rC R r)))) + ((rC R r) * k)) + (n % (rC R r))) d_rm_grown_214 (t_59 hs2) rfl (by omega) (by decide) ?_
      refine Ex_iincN (n) 1 [some (.ref 38), some (.int (nI (r))), some (.int (nI (sd))), some (.int (nI (gN l))), some (.int (nI (rR R r))), some (.int (nI (rC R r))), some (.int (nI (i))), some (.int (nI (60 * sd + i))), some (.int (J (gO l i * ((rC R r : Nat) : Int)))), some (.int (nI (k))), some (.int (eM (gX l i k))), some (.int (nI (n + 1))), some (.int (nI (((60 * (1 - sd)) + ((rR R r) * i)) + (n / (rC R r)))))] d_rm_grown_215 rfl rfl rfl rfl ?_
      refine Ex_goto 146 d_rm_grown_218 rfl ?_
      refine Ex_forget (ls' := [some (.ref 38), some (.int (nI (r))), some (.int (nI (sd))), some (.int (nI (gN l))), some (.int (nI (rR R r))), some (.int (nI (rC R r))), some (.int (nI (i))), some (.int (nI (60 * sd + i))), some (.int (J (gO l i * ((rC R r : Nat) : Int)))), some (.int (nI (k))), some (.int (eM (gX l i k))), some (.int (nI (n + 1))), none]) (sub_s (sub_s (sub_s (sub_s (sub_s (sub_s (sub_s (sub_s (sub_s (sub_s (sub_s (sub_s (sub_n sub_0))))))))))))) ?_
      have hidx : 60 * (60 * (1 - sd) + rR R r * i + n / rC R r) + rC R r * k + n % rC R r = 60 * (60 * (1 - sd) + (i * rR R r + n / rC R r)) + (k * rC R r + n % rC R r) := by rw [Nat.mul_comm (rR R r) i, Nat.mul_comm (rC R r) k]; omega
      have hval : bkT K R r (gX l i k) (n / rC R r) (n % rC R r) = gX (lvS K R r l) (i * rR R r + n / rC R r) (k * rC R r + n % rC R r) := by
        show _ = bkT K R r (gX l ((i * rR R r + n / rC R r) / rR R r) ((k * rC R r + n % rC R r) / rC R r)) ((i * rR R r + n / rC R r) % rR R r) ((k * rC R r + n % rC R r) % rC R r)
        rw [(idx_dm hd1).1, (idx_dm hd1).2, (idx_dm hd2).1, (idx_dm hd2).2]
      rw [hidx, hval]
      have hne : ∀ x, mI h2 59 x = mI h1 59 x := fun x => f2.I (by omega) (by omega)
      have hne0 : ∀ x, mI h2 60 x = mI h1 60 x := fun x => f2.I (by omega) (by omega)
      have hne1 : ∀ x, mI h2 61 x = mI h1 61 x := fun x => f2.I (by omega) (by omega)
      refine ih (n + 1) (by omega) _ ⟨⟨Fr.sI (f1.tr f2g) (Or.inl rfl), fun x hx => ?_, fun x hx => ?_⟩, fun a ha x hx => ?_, fun n' hn' => ?_⟩
      · rw [mI_oth (Or.inl (by decide)), mI_oth (Or.inl (by decide)), hne0, hne1]
        obtain ⟨z1, z2, z3⟩ := hI.1.2.1 x hx
        refine ⟨z1, z2, fun y hy => ?_⟩
        have hl2 := (hl.2 x hx).1
        rw [mI_oth (Or.inr (by omega)), hne]
        exact z3 y hy
      · rw [mI_oth (Or.inl (by decide)), mI_oth (Or.inl (by decide)), hne0, hne1]
        obtain ⟨z1, z2, z3⟩ := hI.1.2.2 x hx
        refine ⟨z1, z2, fun y hy => ?_⟩
        have hy60 : y < 60 := by
          have hy : y < gL l (x / rR R r) * rC R r := hy
          have hx2 : x / rR R r < i := by rw [Nat.div_lt_iff_lt_mul (by omega)]; exact hx
          have := (hall _ hx2).1
          omega
        rw [mI_oth (Or.inr (by omega)), hne]
        exact z3 y hy
      · rw [mI_oth (Or.inr ?_), hne]
        · exact hI.2.1 a ha x hx
        · have hx60 : x < 60 := by omega
          omega
      · by_cases hnn2 : n' = n
        · subst hnn2
          rw [mI_self]
        · rw [mI_oth (Or.inr ?_), hne]
          · exact hI.2.2 n' (by omega)
          · intro z
            have q1 : n' % rC R r < rC R r := Nat.mod_lt _ hd3
            have q2 : n' / rC R r = n / rC R r := by omega
            have q3 : n' % rC R r = n % rC R r := by omega
            have := dm_eq n' (rC R r)
            have := dm_eq n (rC R r)
            rw [q2, q3] at *
            omega
theorem rm_grown_L2 {S : mj_S} {Q : Option Value → mj_H → Prop} {h : mj_H} (hs : HT h) {K : SK} (hK : KM K h) (hO : KO K) {R : SR} (hR : RM R h) (hRO : RO K.1 R) {r : Nat} (hr : r < R.1) {l : LV} (hl : LO K.1 l) {sd : Nat} (hsd : sd ≤ 1) (hW : WL sd l h) (hmr : gN l * rR R r ≤ 60) {i : Nat} (hi : i < gN l) (hoi : gL l i * rC R r ≤ 60 ∧ -30 ≤ gO l i * rC R r ∧ gO l i * rC R r ≤ 30) (hall : ∀ x, x < i → gL l x * rC R r ≤ 60 ∧ -30 ≤ gO l x * rC R r ∧ gO l x * rC R r ≤ 30) (kz : ∀ h1 : mj_H, Fr Wgw h h1 → (∃ k, k < gL l i ∧ oddT (gX l i k) ∧ rR R r ≠ rC R r) → Q (some (.int 0)) h1)
    (kx : ∀ h1 : mj_H, ((Fr Wgw h h1 ∧ WL sd l h1 ∧ (∀ x, x < i * rR R r → mI h1 60 (60 * (1 - sd) + x) = nI (gL (lvS K R r l) x) ∧ mI h1 61 (60 * (1 - sd) + x) = J (gO (lvS K R r l) x) ∧ ∀ k, k < gL (lvS K R r l) x → mI h1 59 (60 * (60 * (1 - sd) + x) + k) = eM (gX (lvS K R r l) x k))) ∧ (∀ a, a < rR R r → ∀ x, x < (gL l i) * rC R r → mI h1 59 (60 * (60 * (1 - sd) + (i * rR R r + a)) + x) = eM (gX (lvS K R r l) (i * rR R r + a) x))) → (∀ k, k < gL l i → ¬ (oddT (gX l i k) ∧ rR R r ≠ rC R r)) → Ex S rm_grown 227 [some (.ref 38), some (.int (nI (r))), some (.int (nI (sd))), some (.int (nI (gN l))), some (.int (nI (rR R r))), some (.int (nI (rC R r))), some (.int (nI (i))), some (.int (nI (60 * sd + i))), some (.int (J (gO l i * ((rC R r : Nat) : Int)))), some (.int (nI (gL l i))), none, none, none] [] h1 Q) : ∀ d k : Nat, k + d = gL l i → (∀ k', k' < k → ¬ (oddT (gX l i k') ∧ rR R r ≠ rC R r)) → ∀ h1 : mj_H, ((Fr Wgw h h1 ∧ WL sd l h1 ∧ (∀ x, x < i * rR R r → mI h1 60 (60 * (1 - sd) + x) = nI (gL (lvS K R r l) x) ∧ mI h1 61 (60 * (1 - sd) + x) = J (gO (lvS K R r l) x) ∧ ∀ k, k < gL (lvS K R r l) x → mI h1 59 (60 * (60 * (1 - sd) + x) + k) = eM (gX (lvS K R r l) x k))) ∧ (∀ a, a < rR R r → ∀ x, x < k * rC R r → mI h1 59 (60 * (60 * (1 - sd) + (i * rR R r + a)) + x) = eM (gX (lvS K R r l) (i * rR R r + a) x))) → Ex S rm_grown 91 [some (.ref 38), some (.int (nI (r))), some (.int (nI (sd))), some (.int (nI (gN l))), some (.int (nI (rR R r))), some (.int (nI (rC R r))), some (.int (nI (i))), some (.int (nI (60 * sd + i))), some (.int (J (gO l i * ((rC R r : Nat) : Int)))), some (.int (nI (k))), none, none, none] [] h1 Q := by
  obtain ⟨hz1, hz2⟩ := hRO.2 r hr
  have h40 := hO.1
  have h8 := hRO.1
  have hl60 := hl.1
  have hli := (hl.2 i hi).1
  have hir : i * rR R r + rR R r ≤ 60 := by have := Nat.mul_le_mul_right (rR R r) (show i + 1 ≤ gN l by omega); rw [Nat.add_mul, Nat.one_mul] at this; omega
  intro d
  induction d with
  | zero =>
    intro k hkk hev h1 hI
    obtain rfl : gL l i = k := by omega
    have f1 := hI.1.1
    have hs1 : HT h1 := f1.ht hs Wgw_st
    have hK1 := KM_g hs f1 hK
    have hR1 := RM_g hs f1 hR
    refine Ex_iload d_rm_grown_91 rfl ?_
    refine Ex_aload_n d_rm_grown_93 rfl ?_
    refine Ex_getR (v := .ref 60) d_rm_grown_94 pf_rm_76 rfl (t_38 hs1) (r_38_31 hs1) ?_
    refine Ex_iload d_rm_grown_97 rfl ?_
    refine Ex_ialoadN (a := 60 * sd + i) d_rm_grown_99 (t_60 hs1) rfl (by omega) (by decide) (hI.1.2.1 i hi).1 ?_
    refine Ex_icmp_geN (gL l i) (gL l i) 227 d_rm_grown_100 rfl rfl rfl (by omega) (by omega) (fun hc100 => ?_) (fun hc100 => ?_)
    · exact kx h1 hI hev
    · exfalso; omega
  | succ d ih =>
    intro k hkk hev h1 hI
    have f1 := hI.1.1
    have hs1 : HT h1 := f1.ht hs Wgw_st
    have hK1 := KM_g hs f1 hK
    have hR1 := RM_g hs f1 hR
    have hk0 : k < gL l i := by omega
    have hokc := (hl.2 i hi).2 k hk0
    have hcell := (hI.1.2.1 i hi).2.2 k hk0
    cases hcc : gX l i k with
    | none =>
      have hz : eM (gX l i k) = 0 := by rw [hcc]; rfl
      have hmk : ¬ (oddT (gX l i k) ∧ rR R r ≠ rC R r) := by rw [hcc]; exact fun z => z.1
      refine Ex_iload d_rm_grown_91 rfl ?_
      refine Ex_aload_n d_rm_grown_93 rfl ?_
      refine Ex_getR (v := .ref 60) d_rm_grown_94 pf_rm_76 rfl (t_38 hs1) (r_38_31 hs1) ?_
      refine Ex_iload d_rm_grown_97 rfl ?_
      refine Ex_ialoadN (a := 60 * sd + i) d_rm_grown_99 (t_60 hs1) rfl (by omega) (by decide) (hI.1.2.1 i hi).1 ?_
      refine Ex_icmp_geN (k) (gL l i) 227 d_rm_grown_100 rfl rfl rfl (by omega) (by omega) (fun hc100 => ?_) (fun hc100 => ?_)
      · exfalso; omega
      · refine Ex_aload_n d_rm_grown_103 rfl ?_
        refine Ex_getR (v := .ref 59) d_rm_grown_104 pf_rm_73 rfl (t_38 hs1) (r_38_30 hs1) ?_
        refine Ex_bipush d_rm_grown_107 bp_60 ?_
        refine Ex_iload d_rm_grown_109 rfl ?_
        refine Ex_imulN (60) (60 * sd + i) d_rm_grown_111 rfl rfl ?_
        refine Ex_iload d_rm_grown_112 rfl ?_
        refine Ex_iaddN (60 * (60 * sd + i)) (k) d_rm_grown_114 rfl rfl ?_
        refine Ex_ialoadN (a := (60 * (60 * sd + i)) + k) d_rm_grown_115 (t_59 hs1) rfl (by omega) (by decide) hcell ?_
        refine Ex_istore [some (.ref 38), some (.int (nI (r))), some (.int (nI (sd))), some (.int (nI (gN l))), some (.int (nI (rR R r))), some (.int (nI (rC R r))), some (.int (nI (i))), some (.int (nI (60 * sd + i))), some (.int (J (gO l i * ((rC R r : Nat) : Int)))), some (.int (nI (k))), some (.int (eM (gX l i k))), none, none] d_rm_grown_116 (Nat.le_of_ble_eq_true rfl) rfl ?_
        refine Ex_iload d_rm_grown_118 rfl ?_
        refine Ex_if_eq 143 d_rm_grown_120 rfl (fun hc120 => ?_) (fun hc120 => ?_)
        · refine Ex_iconst d_rm_grown_143 ic_0 ?_
          refine Ex_istore [some (.ref 38), some (.int (nI (r))), some (.int (nI (sd))), some (.int (nI (gN l))), some (.int (nI (rR R r))), some (.int (nI (rC R r))), some (.int (nI (i))), some (.int (nI (60 * sd + i))), some (.int (J (gO l i * ((rC R r : Nat) : Int)))), some (.int (nI (k))), some (.int (eM (gX l i k))), some (.int (0)), none] d_rm_grown_144 (Nat.le_of_ble_eq_true rfl) rfl ?_
          refine rm_grown_L1 hs hK hO hR hRO hr hl hsd hW hmr hi hoi hall hk0 hmk (fun h2 hI2 => ?_) (rR R r * rC R r) 0 (by omega) h1 ⟨hI.1, hI.2, fun n hn => absurd hn (by omega)⟩
          refine Ex_iincN (k) 1 [some (.ref 38), some (.int (nI (r))), some (.int (nI (sd))), some (.int (nI (gN l))), some (.int (nI (rR R r))), some (.int (nI (rC R r))), some (.int (nI (i))), some (.int (nI (60 * sd + i))), some (.int (J (gO l i * ((rC R r : Nat) : Int)))), some (.int (nI (k + 1))), some (.int (eM (gX l i k))), some (.int (nI (rR R r * rC R r))), none] d_rm_grown_221 rfl rfl rfl rfl ?_
          refine Ex_goto 91 d_rm_grown_224 rfl ?_
          refine Ex_forget (ls' := [some (.ref 38), some (.int (nI (r))), some (.int (nI (sd))), some (.int (nI (gN l))), some (.int (nI (rR R r))), some (.int (nI (rC R r))), some (.int (nI (i))), some (.int (nI (60 * sd + i))), some (.int (J (gO l i * ((rC R r : Nat) : Int)))), some (.int (nI (k + 1))), none, none, none]) (sub_s (sub_s (sub_s (sub_s (sub_s (sub_s (sub_s (sub_s (sub_s (sub_s (sub_n (sub_n (sub_n sub_0))))))))))))) ?_
          refine ih (k + 1) (by omega) (fun k' hk' => ?_) h2 ⟨hI2.1, fun a ha x hx => ?_⟩
          · by_cases hkk2 : k' = k
            · rw [hkk2]; exact hmk
            · exact hev k' (by omega)
          · by_cases hxk : x < k * rC R r
            · exact hI2.2.1 a ha x hxk
            · rw [Nat.add_mul, Nat.one_mul] at hx
              have hq := hI2.2.2 (a * rC R r + (x - k * rC R r)) (idx_lt ha (by omega))
              obtain ⟨q1, q2⟩ := idx_dm (i := a) (j := x - k * rC R r) (C := rC R r) (by omega)
              rw [q1, q2, show k * rC R r + (x - k * rC R r) = x by omega] at hq
              exact hq
        · exact absurd hz hc120
    | some q1 =>
      obtain ⟨b1, m1, s1⟩ := q1
      rw [hcc] at hokc
      refine Ex_iload d_rm_grown_91 rfl ?_
      refine Ex_aload_n d_rm_grown_93 rfl ?_
      refine Ex_getR (v := .ref 60) d_rm_grown_94 pf_rm_76 rfl (t_38 hs1) (r_38_31 hs1) ?_
      refine Ex_iload d_rm_grown_97 rfl ?_
      refine Ex_ialoadN (a := 60 * sd + i) d_rm_grown_99 (t_60 hs1) rfl (by omega) (by decide) (hI.1.2.1 i hi).1 ?_
      refine Ex_icmp_geN (k) (gL l i) 227 d_rm_grown_100 rfl rfl rfl (by omega) (by omega) (fun hc100 => ?_) (fun hc100 => ?_)
      · exfalso; omega
      · refine Ex_aload_n d_rm_grown_103 rfl ?_
        refine Ex_getR (v := .ref 59) d_rm_grown_104 pf_rm_73 rfl (t_38 hs1) (r_38_30 hs1) ?_
        refine Ex_bipush d_rm_grown_107 bp_60 ?_
        refine Ex_iload d_rm_grown_109 rfl ?_
        refine Ex_imulN (60) (60 * sd + i) d_rm_grown_111 rfl rfl ?_
        refine Ex_iload d_rm_grown_112 rfl ?_
        refine Ex_iaddN (60 * (60 * sd + i)) (k) d_rm_grown_114 rfl rfl ?_
        refine Ex_ialoadN (a := (60 * (60 * sd + i)) + k) d_rm_grown_115 (t_59 hs1) rfl (by omega) (by decide) hcell ?_
        refine Ex_istore [some (.ref 38), some (.int (nI (r))), some (.int (nI (sd))), some (.int (nI (gN l))), some (.int (nI (rR R r))), some (.int (nI (rC R r))), some (.int (nI (i))), some (.int (nI (60 * sd + i))), some (.int (J (gO l i * ((rC R r : Nat) : Int)))), some (.int (nI (k))), some (.int (eM (gX l i k))), none, none] d_rm_grown_116 (Nat.le_of_ble_eq_true rfl) rfl ?_
        refine Ex_iload d_rm_grown_118 rfl ?_
        refine Ex_if_eq 143 d_rm_grown_120 rfl (fun hc120 => ?_) (fun hc120 => ?_)
        · exact absurd hc120 (by rw [hcc]; exact eM_ne (okT_mono hokc hO.1))
        · refine Ex_iload d_rm_grown_123 rfl ?_
          refine Ex_pS1 (v := .int (nI (m1))) d_rm_grown_125 pk_rm_grown_160 (by rw [hcc]; exact rm_moveOf_s (Nat.lt_of_lt_of_le hokc.1 hO.1) hokc.2.1 hokc.2.2) ?_
          refine Ex_iconst d_rm_grown_128 ic_1 ?_
          refine Ex_iand d_rm_grown_129 ?_
          rw [show (((nI (m1)) &&& (1 : Int32)) : Int32) = (nI (m1 % 2)) from (nI_1m m1)]
          refine Ex_iconst d_rm_grown_130 ic_1 ?_
          refine Ex_icmp_neN (m1 % 2) (1) 143 d_rm_grown_131 rfl rfl rfl (by omega) (by omega) (fun hc131 => ?_) (fun hc131 => ?_)
          · have hmk : ¬ (oddT (gX l i k) ∧ rR R r ≠ rC R r) := by rw [hcc]; exact fun z => hc131 z.1
            refine Ex_iconst d_rm_grown_143 ic_0 ?_
            refine Ex_istore [some (.ref 38), some (.int (nI (r))), some (.int (nI (sd))), some (.int (nI (gN l))), some (.int (nI (rR R r))), some (.int (nI (rC R r))), some (.int (nI (i))), some (.int (nI (60 * sd + i))), some (.int (J (gO l i * ((rC R r : Nat) : Int)))), some (.int (nI (k))), some (.int (eM (gX l i k))), some (.int (0)), none] d_rm_grown_144 (Nat.le_of_ble_eq_true rfl) rfl ?_
            refine rm_grown_L1 hs hK hO hR hRO hr hl hsd hW hmr hi hoi hall hk0 hmk (fun h2 hI2 => ?_) (rR R r * rC R r) 0 (by omega) h1 ⟨hI.1, hI.2, fun n hn => absurd hn (by omega)⟩
            refine Ex_iincN (k) 1 [some (.ref 38), some (.int (nI (r))), some (.int (nI (sd))), some (.int (nI (gN l))), some (.int (nI (rR R r))), some (.int (nI (rC R r))), some (.int (nI (i))), some (.int (nI (60 * sd + i))), some (.int (J (gO l i * ((rC R r : Nat) : Int)))), some (.int (nI (k + 1))), some (.int (eM (gX l i k))), some (.int (nI (rR R r * rC R r))), none] d_rm_grown_221 rfl rfl rfl rfl ?_
            refine Ex_goto 91 d_rm_grown_224 rfl ?_
            refine Ex_forget (ls' := [some (.ref 38), some (.int (nI (r))), some (.int (nI (sd))), some (.int (nI (gN l))), some (.int (nI (rR R r))), some (.int (nI (rC R r))), some (.int (nI (i))), some (.int (nI (60 * sd + i))), some (.int (J (gO l i * ((rC R r : Nat) : Int)))), some (.int (nI (k + 1))), none, none, none]) (sub_s (sub_s (sub_s (sub_s (sub_s (sub_s (sub_s (sub_s (sub_s (sub_s (sub_n (sub_n (sub_n sub_0))))))))))))) ?_
            refine ih (k + 1) (by omega) (fun k' hk' => ?_) h2 ⟨hI2.1, fun a ha x hx => ?_⟩
            · by_cases hkk2 : k' = k
              · rw [hkk2]; exact hmk
              · exact hev k' (by omega)
            · by_cases hxk : x < k * rC R r
              · exact hI2.2.1 a ha x hxk
              · rw [Nat.add_mul, Nat.one_mul] at hx
                have hq := hI2.2.2 (a * rC R r + (x - k * rC R r)) (idx_lt ha (by omega))
                obtain ⟨q1, q2⟩ := idx_dm (i := a) (j := x - k * rC R r) (C := rC R r) (by omega)
                rw [q1, q2, show k * rC R r + (x - k * rC R r) = x by omega] at hq
                exact hq
          · refine Ex_iload d_rm_grown_134 rfl ?_
            refine Ex_iload d_rm_grown_136 rfl ?_
            refine Ex_icmp_eqN (rR R r) (rC R r) 143 d_rm_grown_138 rfl rfl rfl (by omega) (by omega) (fun hc138 => ?_) (fun hc138 => ?_)
            · have hmk : ¬ (oddT (gX l i k) ∧ rR R r ≠ rC R r) := by rw [hcc]; exact fun z => z.2 hc138
              refine Ex_iconst d_rm_grown_143 ic_0 ?_
              refine Ex_istore [some (.ref 38), some (.int (nI (r))), some (.int (nI (sd))), some (.int (nI (gN l))), some (.int (nI (rR R r))), some (.int (nI (rC R r))), some (.int (nI (i))), some (.int (nI (60 * sd + i))), some (.int (J (gO l i * ((rC R r : Nat) : Int)))), some (.int (nI (k))), some (.int (eM (gX l i k))), some (.int (0)), none] d_rm_grown_144 (Nat.le_of_ble_eq_true rfl) rfl ?_
              refine rm_grown_L1 hs hK hO hR hRO hr hl hsd hW hmr hi hoi hall hk0 hmk (fun h2 hI2 => ?_) (rR R r * rC R r) 0 (by omega) h1 ⟨hI.1, hI.2, fun n hn => absurd hn (by omega)⟩
              refine Ex_iincN (k) 1 [some (.ref 38), some (.int (nI (r))), some (.int (nI (sd))), some (.int (nI (gN l))), some (.int (nI (rR R r))), some (.int (nI (rC R r))), some (.int (nI (i))), some (.int (nI (60 * sd + i))), some (.int (J (gO l i * ((rC R r : Nat) : Int)))), some (.int (nI (k + 1))), some (.int (eM (gX l i k))), some (.int (nI (rR R r * rC R r))), none] d_rm_grown_221 rfl rfl rfl rfl ?_
              refine Ex_goto 91 d_rm_grown_224 rfl ?_
              refine Ex_forget (ls' := [some (.ref 38), some (.int (nI (r))), some (.int (nI (sd))), some (.int (nI (gN l))), some (.int (nI (rR R r))), some (.int (nI (rC R r))), some (.int (nI (i))), some (.int (nI (60 * sd + i))), some (.int (J (gO l i * ((rC R r : Nat) : Int)))), some (.int (nI (k + 1))), none, none, none]) (sub_s (sub_s (sub_s (sub_s (sub_s (sub_s (sub_s (sub_s (sub_s (sub_s (sub_n (sub_n (sub_n sub_0))))))))))))) ?_
              refine ih (k + 1) (by omega) (fun k' hk' => ?_) h2 ⟨hI2.1, fun a ha x hx => ?_⟩
              · by_cases hkk2 : k' = k
                · rw [hkk2]; exact hmk
                · exact hev k' (by omega)
              · by_cases hxk : x < k * rC R r
                · exact hI2.2.1 a ha x hxk
                · rw [Nat.add_mul, Nat.one_mul] at hx
                  have hq := hI2.2.2 (a * rC R r + (x - k * rC R r)) (idx_lt ha (by omega))
                  obtain ⟨q1, q2⟩ := idx_dm (i := a) (j := x - k * rC R r) (C := rC R r) (by omega)
                  rw [q1, q2, show k * rC R r + (x - k * rC R r) = x by omega] at hq
                  exact hq
            · refine Ex_iconst d_rm_grown_141 ic_0 ?_
              refine Ex_zreturn d_rm_grown_142 rfl (by decide) ?_
              exact kz h1 f1 ⟨k, hk0, by rw [hcc]; exact hc131, by omega⟩
