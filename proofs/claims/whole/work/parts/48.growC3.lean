/-! The class: grownRow, grow. -/
def WRx (Y : OW) (a k : Nat) : Prop := WRn a k ∨ (74 ≤ a ∧ (Y a).1 = 0)
theorem WRx_st (Y : OW) : ∀ q ∈ statR, ¬ WRx Y q.1 q.2.1 := by
  intro q hq z
  rcases z with z | z
  · exact WRn_st q hq z
  · have := st_lt q hq
    omega
theorem WRx_C {Y : OW} : ∀ a k, WRx Y a k → WPC Y a k := by
  intro a k z
  rcases z with z | z
  · exact WRn_C a k z
  · exact Or.inl (Or.inr (Or.inr (Or.inr z)))
theorem Src_newR {P : SP} {l : List Nat} {L : LV} (hl : okL (pMd P) l) (hS : Src P l L) {n : Nat} {z : Int} {f : Nat → Tl} : Src (newR P n z f) l L := by
  refine ⟨hS.1, fun u hu => ?_⟩
  have hr := hl.2 _ (getD_mem hu)
  rw [newR_Lo hr, newR_Oo hr, newR_Co hr]
  exact hS.2 u hu
theorem RuC1_x {R : SR} {Y Y' : OW} {h h' : mj_H} (hs : HT h) (f : Fr (WRx Y) h h') {r a b c d : Nat} (hy : OwE h Y Y') (z : RuC1 R Y h r a b c d) : RuC1 R Y' h' r a b c d :=
  RuC1_fr hs f (by unfold WRx WRn WRe Wal; omega) (fun k w => by
    have h1 := z.1.1
    rcases w with w | w
    · unfold WRn WRe Wal at w; omega
    · rw [h1.2] at w; omega) (fun k w => by
    have h1 := z.1.2.1
    rcases w with w | w
    · unfold WRn WRe Wal at w; omega
    · rw [h1.2] at w; omega) hy z
theorem KC_x {K : SK} {Y : OW} {h h' : mj_H} (hs : HT h) (f : Fr (WRx Y) h h') (hK : KC K h) : KC K h' := KC_fr hs f (by intro a k; unfold WKC WRx WRn WRe Wal; omega) hK
theorem Pob_x {Y : OW} {h h' : mj_H} (f : Fr (WRx Y) h h') {x y : Nat} {l : List Nat} (hx : 74 ≤ x ∧ (Y x).1 ≠ 0) (hy : 74 ≤ y ∧ (Y y).1 ≠ 0) (hB : Pob h x y l) : Pob h' x y l :=
  Pob_fr f (fun k w => by
    rcases w with w | w
    · unfold WRn WRe Wal at w; omega
    · exact hx.2 w.2) (fun k w => by
    rcases w with w | w
    · unfold WRn WRe Wal at w; omega
    · exact hy.2 w.2) hB
theorem to_grownRow_L {S : mj_S} {Q : Option Value → mj_H → Prop} {h : mj_H} (hs : HT h) {K : SK} (hK : KC K h) (hO : KO K) {R : SR} {Y : OW} (hRO : RO K.1 R) {r a b c d : Nat} (hr : r < R.1) (hx : RuC1 R Y h r a b c d) {P : SP} (hR : RwC P Y h) (hQ : PO K.1 P) {x y : Nat} {l : List Nat} (hB : Pob h x y l) (hl : okL (pMd P) l) {L : LV} (hS : Src P l L) {s : Nat} (hs5 : s ≤ 5) (hxy : (74 ≤ x ∧ (Y x).1 ≠ 0) ∧ 74 ≤ y ∧ (Y y).1 ≠ 0) (hm : pMd P < 6000) (hok : ∀ t, t < s → okLv R r (lvN K R r L t)) {i u : Nat} (hi : i < l.length * rR R r ^ s) (hu : i / rR R r ^ s = u)
    (kx : ∀ h1 : mj_H, (∃ Y1, OwE h Y Y1 ∧ RwC (newR P (gL L u * (rC R r) ^ s) (gO L u * (((rC R r) ^ s : Nat) : Int)) (cpC (gX (lvN K R r L s) i) (gL L u * (rC R r) ^ s))) Y1 h1 ∧ Fr (WRx Y) h h1 ∧ Gr 1 60 h h1) → Ex S to_grownRow 100 [some (.ref 0), some (.ref (x)), some (.ref (a)), some (.int (nI (s))), some (.int (nI (i))), some (.int (nI ((rC R r) ^ s))), some (.int (nI (u))), some (.int (J (gO L u * (((rC R r) ^ s : Nat) : Int)))), some (.int (nI (gL L u * (rC R r) ^ s))), some (.int (nI (pMd P))), some (.int (J (gO L u * (((rC R r) ^ s : Nat) : Int) + ((gL L u * (rC R r) ^ s : Nat) : Int))))] [] h1 Q) : ∀ d k : Nat, k + d = gL L u * (rC R r) ^ s → ∀ h1 : mj_H, (∃ Y1, OwE h Y Y1 ∧ RwC (newR P (gL L u * (rC R r) ^ s) (gO L u * (((rC R r) ^ s : Nat) : Int)) (cpC (gX (lvN K R r L s) i) k)) Y1 h1 ∧ Fr (WRx Y) h h1 ∧ Gr 1 60 h h1) → Ex S to_grownRow 62 [some (.ref 0), some (.ref (x)), some (.ref (a)), some (.int (nI (s))), some (.int (nI (i))), some (.int (nI ((rC R r) ^ s))), some (.int (nI (u))), some (.int (J (gO L u * (((rC R r) ^ s : Nat) : Int)))), some (.int (nI (gL L u * (rC R r) ^ s))), some (.int (nI (pMd P))), some (.int (J (gO L u * (((rC R r) ^ s : Nat) : Int) + ((k : Nat) : Int))))] [] h1 Q := by
  obtain ⟨hz1, hz2⟩ := hRO.2 r hr
  have hl60 := hl.1
  have hsR := pw_b (a := rR R r) (by omega) hs5
  have hsC := pw_b (a := rC R r) (by omega) hs5
  have hLO := Src_LO hQ hl hS
  have hN := hS.1
  have hi60 : l.length * rR R r ^ s ≤ 60 * 1024 := mul_le hl60 hsR.2
  have hu0 : i / rR R r ^ s < l.length := by rw [Nat.div_lt_iff_lt_mul (by omega)]; exact hi
  rw [hu] at hu0
  have hLu := (hLO.2 u (by omega)).1
  have hk60 : gL L u * rC R r ^ s ≤ 60 * 1024 := mul_le (by omega) hsC.2
  have hob := ob (o := gO L u) (c := rC R r ^ s) (by omega) hsC.2
  obtain ⟨z1, z2, z3⟩ := lv_sz K R r L s
  have hLs := lvN_ok hO hRO hr hLO s hok
  have hLi := hLs.2 i (by rw [z1, hN]; exact hi)
  rw [z2, z3, hu] at hLi
  have hmd : pMd P ≤ 6000 := hQ.1
  intro d
  induction d with
  | zero =>
    intro k hkk h1 hI
    obtain rfl : gL L u * (rC R r) ^ s = k := by omega
    refine Ex_iload d_to_grownRow_62 rfl ?_
    refine Ex_iload d_to_grownRow_64 rfl ?_
    refine Ex_iload d_to_grownRow_66 rfl ?_
    refine Ex_iaddZ (gO L u * (((rC R r) ^ s : Nat) : Int)) (((gL L u * (rC R r) ^ s : Nat) : Int)) d_to_grownRow_68 rfl (nIJ _) ?_
    refine Ex_icmp_geZ (gO L u * (((rC R r) ^ s : Nat) : Int) + ((gL L u * (rC R r) ^ s : Nat) : Int)) ((gO L u * (((rC R r) ^ s : Nat) : Int)) + (((gL L u * (rC R r) ^ s : Nat) : Int))) 100 d_to_grownRow_69 rfl rfl rfl (by omega) (by omega) (fun hc69 => ?_) (fun hc69 => ?_)
    · exact kx h1 hI
    · exfalso; omega
  | succ d ih =>
    intro k hkk h1 hI
    obtain ⟨Y1, oY, hR1, f1, g1⟩ := hI
    have hs1 : HT h1 := f1.ht hs (WRx_st Y)
    have hK1 := KC_x hs f1 hK
    have hx1 := RuC1_x hs f1 oY hx
    have hB1 := Pob_x f1 hxy.1 hxy.2 hB
    have hkk : k < gL L (i / rR R r ^ s) * rC R r ^ s := by rw [hu]; omega
    have hlw : lw K R r (gX L) s i k = some (gX (lvN K R r L s) i k) := lw_some (by omega) s hok i (by rw [z1, hN]; exact hi) k (by rw [z2]; exact hkk)
    have hQ1 : PO K.1 (newR P (gL L u * (rC R r) ^ s) (gO L u * (((rC R r) ^ s : Nat) : Int)) (cpC (gX (lvN K R r L s) i) k)) := by
      refine PO_newR hQ hm hLi.1.1 hLi.1.2 (fun y hy => ?_)
      by_cases hyk : y < k
      · rw [cpC_at _ _ _ hyk]
        exact hLi.2 y hy
      · rw [cpC_none _ _ _ (by omega)]
        trivial
    refine Ex_iload d_to_grownRow_62 rfl ?_
    refine Ex_iload d_to_grownRow_64 rfl ?_
    refine Ex_iload d_to_grownRow_66 rfl ?_
    refine Ex_iaddZ (gO L u * (((rC R r) ^ s : Nat) : Int)) (((gL L u * (rC R r) ^ s : Nat) : Int)) d_to_grownRow_68 rfl (nIJ _) ?_
    refine Ex_icmp_geZ (gO L u * (((rC R r) ^ s : Nat) : Int) + ((k : Nat) : Int)) ((gO L u * (((rC R r) ^ s : Nat) : Int)) + (((gL L u * (rC R r) ^ s : Nat) : Int))) 100 d_to_grownRow_69 rfl rfl rfl (by omega) (by omega) (fun hc69 => ?_) (fun hc69 => ?_)
    · exfalso; omega
    · obtain ⟨xr, hr1⟩ := hR1.2 (pMd P) (show pMd P < pMd P + 1 by omega)
      refine Ex_aload_n d_to_grownRow_72 rfl ?_
      refine Ex_getR (v := .ref 21) d_to_grownRow_73 pf_to_42 rfl (t_0 hs1) (r_0_1 hs1) ?_
      refine Ex_iload d_to_grownRow_76 rfl ?_
      refine Ex_iload d_to_grownRow_78 rfl ?_
      refine Ex_aload_n d_to_grownRow_80 rfl ?_
      refine Ex_aload_n d_to_grownRow_81 rfl ?_
      refine Ex_aload_n d_to_grownRow_82 rfl ?_
      refine Ex_iload_n d_to_grownRow_83 rfl ?_
      refine Ex_iload d_to_grownRow_84 rfl ?_
      refine Ex_iload d_to_grownRow_86 rfl ?_
      refine Ex_pV5 (v := .int (eC (gX (lvN K R r L s) i k))) d_to_grownRow_88 pk_to_grownRow_300 (t_0 hs1) (by have z := to_grownCell_s (S := S) hs1 hK1 hO hRO hr hx1 hR1 hQ1 hB1 (okL_mono hl (Nat.le_succ _)) (Src_newR hl hS) hs5 hi hkk (j := gO L u * (((rC R r) ^ s : Nat) : Int) + (k : Int)) (by rw [hu]); rw [hlw] at z; exact z) ?_
      refine Ex_cV3 d_to_grownRow_91 pk_to_grownRow_197 (t_21 hs1) (rs_setCell_s (c := gX (lvN K R r L s) i k) hs1 hR1 hQ1 (q := pMd P) (show pMd P < pMd P + 1 by omega) hr1 (by rw [newR_On, newR_Ln]; omega)) ?_
      rintro rv h2 ⟨rfl, hR2, f2⟩
      show Ex S to_grownRow 94 [some (.ref 0), some (.ref (x)), some (.ref (a)), some (.int (nI (s))), some (.int (nI (i))), some (.int (nI ((rC R r) ^ s))), some (.int (nI (u))), some (.int (J (gO L u * (((rC R r) ^ s : Nat) : Int)))), some (.int (nI (gL L u * (rC R r) ^ s))), some (.int (nI (pMd P))), some (.int (J (gO L u * (((rC R r) ^ s : Nat) : Int) + ((k : Nat) : Int))))] [] h2 _
      refine Ex_iincZ (gO L u * (((rC R r) ^ s : Nat) : Int) + ((k : Nat) : Int)) (1) [some (.ref 0), some (.ref (x)), some (.ref (a)), some (.int (nI (s))), some (.int (nI (i))), some (.int (nI ((rC R r) ^ s))), some (.int (nI (u))), some (.int (J (gO L u * (((rC R r) ^ s : Nat) : Int)))), some (.int (nI (gL L u * (rC R r) ^ s))), some (.int (nI (pMd P))), some (.int (J ((gO L u * (((rC R r) ^ s : Nat) : Int) + ((k : Nat) : Int)) + (1))))] d_to_grownRow_94 rfl rfl (by decide) rfl ?_
      refine Ex_goto 62 d_to_grownRow_97 rfl ?_
      rw [show gO L u * (((rC R r) ^ s : Nat) : Int) + ((k : Nat) : Int) + (1) = gO L u * (((rC R r) ^ s : Nat) : Int) + ((k + 1 : Nat) : Int) by omega]
      refine ih (k + 1) (by omega) h2 ⟨Y1, oY, ?_, ?_, ?_⟩
      · rw [newR_On, show (gO L u * (((rC R r) ^ s : Nat) : Int) + (k : Int) - gO L u * (((rC R r) ^ s : Nat) : Int)).toNat = k by omega, newR_u] at hR2
        exact hR2
      · refine f1.trN f2 (by have := HT_n hs; omega) (fun v k hv w => ?_)
        obtain ⟨rfl, -⟩ := w
        refine Or.inr ⟨hr1.1.1, ?_⟩
        rw [← oY v hv, hr1.1.2]
      · exact g1.tr (Gr.of f2 (by have := hr1.1.1; omega))
theorem to_grownRow_s {S : mj_S} {h : mj_H} (hs : HT h) {K : SK} (hK : KC K h) (hO : KO K) {R : SR} {Y : OW} (hRO : RO K.1 R) {r a b c d : Nat} (hr : r < R.1) (hx : RuC1 R Y h r a b c d) {P : SP} (hR : RwC P Y h) (hQ : PO K.1 P) {x y : Nat} {l : List Nat} (hB : Pob h x y l) (hl : okL (pMd P) l) {L : LV} (hS : Src P l L) {s : Nat} (hs5 : s ≤ 5) (hxy : (74 ≤ x ∧ (Y x).1 ≠ 0) ∧ 74 ≤ y ∧ (Y y).1 ≠ 0) (hm : pMd P < 6000) (hok : ∀ t, t < s → okLv R r (lvN K R r L t)) {i u : Nat} (hi : i < l.length * rR R r ^ s) (hu : i / rR R r ^ s = u) : Cl S to_grownRow [.ref 0, .ref (x), .ref (a), .int (nI (s)), .int (nI (i))] h (fun rv h' => rv = some (.int (nI (pMd P))) ∧ (∃ Y1, OwE h Y Y1 ∧ RwC (newR P (gL L u * (rC R r) ^ s) (gO L u * (((rC R r) ^ s : Nat) : Int)) (cpC (gX (lvN K R r L s) i) (gL L u * (rC R r) ^ s))) Y1 h' ∧ Fr (WRx Y) h h' ∧ Gr 1 60 h h')) := by
  show Ex S to_grownRow 0 [some (.ref 0), some (.ref (x)), some (.ref (a)), some (.int (nI (s))), some (.int (nI (i))), none, none, none, none, none, none] [] h _
  obtain ⟨hz1, hz2⟩ := hRO.2 r hr
  have hl60 := hl.1
  have hsR := pw_b (a := rR R r) (by omega) hs5
  have hsC := pw_b (a := rC R r) (by omega) hs5
  have hLO := Src_LO hQ hl hS
  have hN := hS.1
  have hi60 : l.length * rR R r ^ s ≤ 60 * 1024 := mul_le hl60 hsR.2
  have hu0 : i / rR R r ^ s < l.length := by rw [Nat.div_lt_iff_lt_mul (by omega)]; exact hi
  rw [hu] at hu0
  have hLu := (hLO.2 u (by omega)).1
  have hk60 : gL L u * rC R r ^ s ≤ 60 * 1024 := mul_le (by omega) hsC.2
  have hob := ob (o := gO L u) (c := rC R r ^ s) (by omega) hsC.2
  obtain ⟨z1, z2, z3⟩ := lv_sz K R r L s
  have hLs := lvN_ok hO hRO hr hLO s hok
  have hLi := hLs.2 i (by rw [z1, hN]; exact hi)
  rw [z2, z3, hu] at hLi
  have hmd : pMd P ≤ 6000 := hQ.1
  refine Ex_aload_n d_to_grownRow_0 rfl ?_
  refine Ex_getIE (y := (nI (rC R r))) d_to_grownRow_1 pf_to_283 rfl hx.2.1.2.1 hx.2.2.2.1 ?_
  refine Ex_iload_n d_to_grownRow_4 rfl ?_
  refine Ex_pS2 (v := .int (nI ((rC R r) ^ s))) d_to_grownRow_5 pk_to_grownRow_280 (to_power_s (by omega) (by omega)) ?_
  refine Ex_istore [some (.ref 0), some (.ref (x)), some (.ref (a)), some (.int (nI (s))), some (.int (nI (i))), some (.int (nI ((rC R r) ^ s))), none, none, none, none, none] d_to_grownRow_8 (Nat.le_of_ble_eq_true rfl) rfl ?_
  refine Ex_iload d_to_grownRow_10 rfl ?_
  refine Ex_aload_n d_to_grownRow_12 rfl ?_
  refine Ex_getIE (y := (nI (rR R r))) d_to_grownRow_13 pf_to_279 rfl hx.2.1.2.1 hx.2.2.1 ?_
  refine Ex_iload_n d_to_grownRow_16 rfl ?_
  refine Ex_pS2 (v := .int (nI ((rR R r) ^ s))) d_to_grownRow_17 pk_to_grownRow_280 (to_power_s (by omega) (by omega)) ?_
  refine Ex_idivN (i) ((rR R r) ^ s) d_to_grownRow_20 rfl rfl (by omega) (by omega) ?_
  rw [show ((nI (i / ((rR R r) ^ s))) : Int32) = (nI (u)) from (by rw [hu])]
  refine Ex_istore [some (.ref 0), some (.ref (x)), some (.ref (a)), some (.int (nI (s))), some (.int (nI (i))), some (.int (nI ((rC R r) ^ s))), some (.int (nI (u))), none, none, none, none] d_to_grownRow_21 (Nat.le_of_ble_eq_true rfl) rfl ?_
  refine Ex_aload_n d_to_grownRow_23 rfl ?_
  refine Ex_iload d_to_grownRow_24 rfl ?_
  refine Ex_pV1 (v := .int (J (gO L u))) d_to_grownRow_26 pk_to_grownRow_215 hB.1.1 (pa_off_u hs hR hQ hB hl hS hu0) ?_
  refine Ex_iload d_to_grownRow_29 rfl ?_
  refine Ex_imulZ (gO L u) ((((rC R r) ^ s : Nat) : Int)) d_to_grownRow_31 rfl (nIJ _) ?_
  refine Ex_istore [some (.ref 0), some (.ref (x)), some (.ref (a)), some (.int (nI (s))), some (.int (nI (i))), some (.int (nI ((rC R r) ^ s))), some (.int (nI (u))), some (.int (J ((gO L u) * ((((rC R r) ^ s : Nat) : Int))))), none, none, none] d_to_grownRow_32 (Nat.le_of_ble_eq_true rfl) rfl ?_
  refine Ex_aload_n d_to_grownRow_34 rfl ?_
  refine Ex_iload d_to_grownRow_35 rfl ?_
  refine Ex_pV1 (v := .int (nI (gL L u))) d_to_grownRow_37 pk_to_grownRow_212 hB.1.1 (pa_len_u hs hR hQ hB hl hS hu0) ?_
  refine Ex_iload d_to_grownRow_40 rfl ?_
  refine Ex_imulN (gL L u) ((rC R r) ^ s) d_to_grownRow_42 rfl rfl ?_
  refine Ex_istore [some (.ref 0), some (.ref (x)), some (.ref (a)), some (.int (nI (s))), some (.int (nI (i))), some (.int (nI ((rC R r) ^ s))), some (.int (nI (u))), some (.int (J ((gO L u) * ((((rC R r) ^ s : Nat) : Int))))), some (.int (nI ((gL L u) * ((rC R r) ^ s)))), none, none] d_to_grownRow_43 (Nat.le_of_ble_eq_true rfl) rfl ?_
  refine Ex_aload_n d_to_grownRow_45 rfl ?_
  refine Ex_getR (v := .ref 21) d_to_grownRow_46 pf_to_42 rfl (t_0 hs) (r_0_1 hs) ?_
  refine Ex_iload d_to_grownRow_49 rfl ?_
  refine Ex_iload d_to_grownRow_51 rfl ?_
  refine Ex_cV2 d_to_grownRow_53 pk_to_grownRow_157 (t_21 hs) (rs_make_s hs hR hQ hm (l := gL L u * (rC R r) ^ s) hLi.1.1 (z := gO L u * (((rC R r) ^ s : Nat) : Int)) hLi.1.2) ?_
  rintro rv h2 ⟨rfl, ⟨Y2, oY2, hR2⟩, f2, g2⟩
  show Ex S to_grownRow 56 [some (.ref 0), some (.ref (x)), some (.ref (a)), some (.int (nI (s))), some (.int (nI (i))), some (.int (nI ((rC R r) ^ s))), some (.int (nI (u))), some (.int (J ((gO L u) * ((((rC R r) ^ s : Nat) : Int))))), some (.int (nI ((gL L u) * ((rC R r) ^ s)))), none, none] [.int (nI (pMd P))] h2 _
  refine Ex_istore [some (.ref 0), some (.ref (x)), some (.ref (a)), some (.int (nI (s))), some (.int (nI (i))), some (.int (nI ((rC R r) ^ s))), some (.int (nI (u))), some (.int (J ((gO L u) * ((((rC R r) ^ s : Nat) : Int))))), some (.int (nI ((gL L u) * ((rC R r) ^ s)))), some (.int (nI (pMd P))), none] d_to_grownRow_56 (Nat.le_of_ble_eq_true rfl) rfl ?_
  refine Ex_iload d_to_grownRow_58 rfl ?_
  refine Ex_istore [some (.ref 0), some (.ref (x)), some (.ref (a)), some (.int (nI (s))), some (.int (nI (i))), some (.int (nI ((rC R r) ^ s))), some (.int (nI (u))), some (.int (J ((gO L u) * ((((rC R r) ^ s : Nat) : Int))))), some (.int (nI ((gL L u) * ((rC R r) ^ s)))), some (.int (nI (pMd P))), some (.int (J ((gO L u) * ((((rC R r) ^ s : Nat) : Int)))))] d_to_grownRow_60 (Nat.le_of_ble_eq_true rfl) rfl ?_
  refine (fun q => by rw [show (gO L u * (((rC R r) ^ s : Nat) : Int) : Int) + ((0 : Nat) : Int) = gO L u * (((rC R r) ^ s : Nat) : Int) from Int.add_zero _] at q; exact q) (to_grownRow_L (S := S) hs hK hO hRO hr hx hR hQ hB hl hS hs5 hxy hm hok hi hu (fun h3 hI3 => ?_) (gL L u * (rC R r) ^ s) 0 (by omega) h2 ⟨Y2, oY2, hR2, f2.mono (fun a k z => Or.inl z), g2⟩)
  refine Ex_iload d_to_grownRow_100 rfl ?_
  refine Ex_ireturn d_to_grownRow_102 rfl ?_
  exact ⟨rfl, hI3⟩
theorem Src_0 (P : SP) (l : List Nat) : Src P l (lv0 P l) := ⟨rfl, fun _ _ => ⟨rfl, rfl, fun _ _ => rfl⟩⟩
theorem Src_gr {P : SP} {l : List Nat} (hl : okL (pMd P) l) {L : LV} (hS : Src P l L) (L1 : LV) : ∀ i, Src (grR P L1 i) l L
  | 0 => hS
  | i + 1 => Src_newR (okL_mono hl (by rw [(grR_s P L1 i).1]; omega)) (Src_gr hl hS L1 i)
theorem insL_end (a m : Nat) : insL (rgL a m) m (a + m) = rgL a (m + 1) := by
  apply List.ext_getElem?
  intro k
  have h1 : (insL (rgL a m) m (a + m)).length = m + 1 := by rw [insL_len (by rw [rgL_len]; omega), rgL_len]
  by_cases hk : k < m + 1
  · have e1 : (insL (rgL a m) m (a + m)).getD k 0 = (rgL a (m + 1)).getD k 0 := by
      rw [rgL_get hk, insL_get (by rw [rgL_len]; omega)]
      by_cases hkm : k < m
      · rw [if_pos hkm, rgL_get hkm]
      · rw [if_neg hkm, if_pos (by omega)]
        omega
    rw [List.getD_eq_getElem?_getD, List.getD_eq_getElem?_getD, List.getElem?_eq_getElem (by rw [h1]; exact hk), List.getElem?_eq_getElem (by rw [rgL_len]; exact hk)] at e1
    rw [List.getElem?_eq_getElem (by rw [h1]; exact hk), List.getElem?_eq_getElem (by rw [rgL_len]; exact hk)]
    exact congrArg some e1
  · rw [List.getElem?_eq_none (by rw [h1]; omega), List.getElem?_eq_none (by rw [rgL_len]; omega)]
