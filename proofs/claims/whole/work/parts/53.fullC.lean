/-! The class: isFull, bears, kept, congruent. -/
theorem pa_isFull_L {S : mj_S} {h : mj_H} (hs : HT h) {K : SK} (hK : KC K h) (hO : KO K) {P : SP} {Y : OW} (hP : PC P Y h) (hQ : PO K.1 P) {p x y : Nat} (hp : p < pNp P) (hx : PaC1 P Y h p x y) : ∀ e i : Nat, i + e = ln P p → (∀ u, u < i → (gO (lp P p) u = 0 ∧ gL (lp P p) u ≠ 0 ∧ gL (lp P p) u = wd P p)) → Ex S pa_isFull 2 [some (.ref (x)), some (.int (nI (i)))] [] h (Pu (.int (bI (tfB (fullP P p)))) h) := by
  have hok := hQ.2.2.2.1 p hp
  have hl60 : ln P p ≤ 60 := hok.1
  have hLO : LO K.1 (lp P p) := lv0_ok hQ hok
  have hB := hx.2.2
  have hS := Src_0 P (pPat P p)
  have hnp := hQ.2.2.1
  have hk40 := hO.1
  have hwe : gL (lp P p) 0 = wd P p := rfl
  have hle : (pPat P p).length = ln P p := rfl
  intro e
  induction e with
  | zero =>
    intro i hie hev
    obtain rfl : ln P p = i := by omega
    refine Ex_iload_n d_pa_isFull_2 rfl ?_
    refine Ex_aload_n d_pa_isFull_3 rfl ?_
    refine Ex_getIE (y := (nI (ln P p))) d_pa_isFull_4 pf_pa_19 rfl hB.1.1 hB.2.1 ?_
    refine Ex_icmp_geN (ln P p) (ln P p) 47 d_pa_isFull_7 rfl rfl rfl (by omega) (by omega) (fun hc7 => ?_) (fun hc7 => ?_)
    · refine Ex_aload_n d_pa_isFull_47 rfl ?_
      refine Ex_getIE (y := (nI (ln P p))) d_pa_isFull_48 pf_pa_19 rfl hB.1.1 hB.2.1 ?_
      refine Ex_if_leN (ln P p) 58 d_pa_isFull_51 rfl rfl (by omega) (fun hc51 => ?_) (fun hc51 => ?_)
      · refine Ex_iconst d_pa_isFull_58 ic_0 ?_
        refine Ex_zreturn d_pa_isFull_59 rfl (by decide) ?_
        exact ⟨by rw [tfB_f (p := fullP P p) (fun z => by have := z.1; omega)]; rfl, rfl⟩
      · refine Ex_iconst d_pa_isFull_54 ic_1 ?_
        refine Ex_goto 59 d_pa_isFull_55 rfl ?_
        refine Ex_zreturn d_pa_isFull_59 rfl (by decide) ?_
        exact ⟨by rw [tfB_t (p := fullP P p) ⟨by omega, by have := hev 0 (by omega); omega, fun u hu => ⟨(hev u hu).1, (hev u hu).2.2⟩⟩]; rfl, rfl⟩
    · exfalso; omega
  | succ e ih =>
    intro i hie hev
    have hi : i < ln P p := by omega
    have hli := (hLO.2 i hi).1
    have hl0 := (hLO.2 0 (by show 0 < ln P p; omega)).1
    refine Ex_iload_n d_pa_isFull_2 rfl ?_
    refine Ex_aload_n d_pa_isFull_3 rfl ?_
    refine Ex_getIE (y := (nI (ln P p))) d_pa_isFull_4 pf_pa_19 rfl hB.1.1 hB.2.1 ?_
    refine Ex_icmp_geN (i) (ln P p) 47 d_pa_isFull_7 rfl rfl rfl (by omega) (by omega) (fun hc7 => ?_) (fun hc7 => ?_)
    · exfalso; omega
    · refine Ex_aload_n d_pa_isFull_10 rfl ?_
      refine Ex_iload_n d_pa_isFull_11 rfl ?_
      refine Ex_pV1 (v := .int (J (gO (lp P p) i))) d_pa_isFull_12 pk_pa_isFull_53 hB.1.1 (pa_off_u hs hP.1 hQ hB hok hS (by omega)) ?_
      refine Ex_if_neZ (gO (lp P p) i) 39 d_pa_isFull_15 rfl rfl (by omega) (fun hc15 => ?_) (fun hc15 => ?_)
      · refine Ex_iconst d_pa_isFull_39 ic_0 ?_
        refine Ex_zreturn d_pa_isFull_40 rfl (by decide) ?_
        exact ⟨by rw [tfB_f (p := fullP P p) (fun z => by have := z.2.1; have := z.2.2 i hi; omega)]; rfl, rfl⟩
      · refine Ex_aload_n d_pa_isFull_18 rfl ?_
        refine Ex_iload_n d_pa_isFull_19 rfl ?_
        refine Ex_pV1 (v := .int (nI (gL (lp P p) i))) d_pa_isFull_20 pk_pa_isFull_56 hB.1.1 (pa_len_u hs hP.1 hQ hB hok hS (by omega)) ?_
        refine Ex_if_eqN (gL (lp P p) i) 39 d_pa_isFull_23 rfl rfl (by omega) (fun hc23 => ?_) (fun hc23 => ?_)
        · refine Ex_iconst d_pa_isFull_39 ic_0 ?_
          refine Ex_zreturn d_pa_isFull_40 rfl (by decide) ?_
          exact ⟨by rw [tfB_f (p := fullP P p) (fun z => by have := z.2.1; have := z.2.2 i hi; omega)]; rfl, rfl⟩
        · refine Ex_aload_n d_pa_isFull_26 rfl ?_
          refine Ex_iload_n d_pa_isFull_27 rfl ?_
          refine Ex_pV1 (v := .int (nI (gL (lp P p) i))) d_pa_isFull_28 pk_pa_isFull_56 hB.1.1 (pa_len_u hs hP.1 hQ hB hok hS (by omega)) ?_
          refine Ex_aload_n d_pa_isFull_31 rfl ?_
          refine Ex_iconst d_pa_isFull_32 ic_0 ?_
          refine Ex_pV1 (v := .int (nI (wd P p))) d_pa_isFull_33 pk_pa_isFull_56 hB.1.1 (pa_len_u (u := 0) hs hP.1 hQ hB hok hS (by omega)) ?_
          refine Ex_icmp_eqN (gL (lp P p) i) (wd P p) 41 d_pa_isFull_36 rfl rfl rfl (by omega) (by omega) (fun hc36 => ?_) (fun hc36 => ?_)
          · refine Ex_iincN (i) 1 [some (.ref (x)), some (.int (nI (i + 1)))] d_pa_isFull_41 rfl rfl rfl rfl ?_
            refine Ex_goto 2 d_pa_isFull_44 rfl ?_
            refine ih (i + 1) (by omega) (fun u hu => ?_)
            by_cases hui : u = i
            · rw [hui]; omega
            · exact hev u (by omega)
          · refine Ex_iconst d_pa_isFull_39 ic_0 ?_
            refine Ex_zreturn d_pa_isFull_40 rfl (by decide) ?_
            exact ⟨by rw [tfB_f (p := fullP P p) (fun z => by have := z.2.1; have := z.2.2 i hi; omega)]; rfl, rfl⟩
theorem pa_isFull_s {S : mj_S} {h : mj_H} (hs : HT h) {K : SK} (hK : KC K h) (hO : KO K) {P : SP} {Y : OW} (hP : PC P Y h) (hQ : PO K.1 P) {p x y : Nat} (hp : p < pNp P) (hx : PaC1 P Y h p x y) : Cl S pa_isFull [.ref (x)] h (Pu (.int (bI (tfB (fullP P p)))) h) := by
  show Ex S pa_isFull 0 [some (.ref (x)), none] [] h _
  refine Ex_iconst d_pa_isFull_0 ic_0 ?_
  refine Ex_istore_n [some (.ref (x)), some (.int (0))] d_pa_isFull_1 (Nat.le_of_ble_eq_true rfl) rfl ?_
  exact pa_isFull_L hs hK hO hP hQ hp hx (ln P p) 0 (by omega) (fun u hu => absurd hu (by omega))
def whG (P : SP) (p : Nat) : SG := (ln P p, wd P p, tkF P (pPat P p) 0 0 (wd P p))
theorem wh_at {n : Nat} {P : SP} (hQ : PO n P) {p : Nat} (hp : p < pNp P) (hf : fullP P p) {k : Nat} (hk : k < ln P p * wd P p) : (whG P p).2.2 k = some (gX (lp P p) (k / wd P p) (k % wd P p)) := by
  obtain ⟨h1, h2, -⟩ := dm_lt hk
  show cAt P p (0 + ((k / wd P p : Nat) : Int)) (0 + ((k % wd P p : Nat) : Int)) = _
  rw [Int.zero_add, Int.zero_add]
  exact full_at hQ hp hf h1 h2
theorem wh_mv {K : SK} {n : Nat} {P : SP} (hQ : PO n P) {p : Nat} (hp : p < pNp P) (hf : fullP P p) {m k : Nat} (hk : k < tRp P p m * tCp P p m) : (tnG K (whG P p) m).2.2 k = some (mvX K P p m (k / tCp P p m) (k % tCp P p m)) := by
  obtain ⟨h1, h2, -⟩ := dm_lt hk
  obtain ⟨h3, h4⟩ := fr_lt h1 h2
  show mvA K ((whG P p).2.2 (fromK m (ln P p) (wd P p) k)) m = _
  rw [wh_at hQ hp hf (by unfold fromK; exact idx_lt h3 h4)]
  unfold fromK
  rw [(idx_dm h4).1, (idx_dm h4).2]
  rfl
theorem bl_takeWhole_s {S : mj_S} {h : mj_H} (hs : HT h) {K : SK} (hK : KC K h) (hO : KO K) {P : SP} {Y : OW} (hP : PC P Y h) (hQ : PO K.1 P) {p x y : Nat} (hp : p < pNp P) (hx : PaC1 P Y h p x y) (hf : fullP P p) {a b cap : Nat} (hk : bkOK a b cap) (hcap : ln P p * wd P p ≤ cap) : Cl S bl_takeWhole [.ref (a), .ref (x)] h (fun r h' => r = none ∧ BkC (whG P p) a b h' ∧ Fr (Wbk a b) h h') := by
  show Ex S bl_takeWhole 0 [some (.ref (a)), some (.ref (x))] [] h _
  have hok := hQ.2.2.2.1 p hp
  have hl60 : ln P p ≤ 60 := hok.1
  have hLO : LO K.1 (lp P p) := lv0_ok hQ hok
  have hB := hx.2.2
  have hS := Src_0 P (pPat P p)
  have hnp := hQ.2.2.1
  have hk40 := hO.1
  have hwe : gL (lp P p) 0 = wd P p := rfl
  have hle : (pPat P p).length = ln P p := rfl
  have hw60 : wd P p ≤ 60 := (hLO.2 0 hf.1).1.1
  refine Ex_aload_n d_bl_takeWhole_0 rfl ?_
  refine Ex_aload_n d_bl_takeWhole_1 rfl ?_
  refine Ex_iconst d_bl_takeWhole_2 ic_0 ?_
  refine Ex_iconst d_bl_takeWhole_3 ic_0 ?_
  refine Ex_aload_n d_bl_takeWhole_4 rfl ?_
  refine Ex_getIE (y := (nI (ln P p))) d_bl_takeWhole_5 pf_bl_44 rfl hB.1.1 hB.2.1 ?_
  refine Ex_aload_n d_bl_takeWhole_8 rfl ?_
  refine Ex_iconst d_bl_takeWhole_9 ic_0 ?_
  refine Ex_pV1 (v := .int (nI (wd P p))) d_bl_takeWhole_10 pk_bl_takeWhole_47 hB.1.1 (pa_len_u (u := 0) hs hP.1 hQ hB hok hS hf.1) ?_
  refine Ex_cV5 d_bl_takeWhole_13 pk_bl_takeWhole_51 (Bob_of hs hk).1 (show Cl S bl_takePattern [.ref a, .ref x, .int 0, .int 0, .int (nI (ln P p)), .int (nI (wd P p))] h _ from (bl_takePattern_s (u := 0) (v := 0) hs hk hP.1 hQ hB hok hx.1.1 hx.1.2.1 (by omega) (by omega) hcap hl60 hw60)) ?_
  rintro rv h1 ⟨rfl, hD1, f1⟩
  show Ex S bl_takeWhole 16 [some (.ref (a)), some (.ref (x))] [] h1 _
  refine Ex_return d_bl_takeWhole_16 rfl ?_
  exact ⟨rfl, hD1, f1⟩
theorem rs_bears_L {S : mj_S} {h : mj_H} (hs : HT h) {P : SP} {Y : OW} (hR : RwC P Y h) {n : Nat} (hn : n ≤ 40) (hQ : PO n P) {D : SG} (hD : BkC D 33 34 h) (hDc : D.1 * D.2.1 ≤ 3600) (hD6 : D.1 ≤ 60 ∧ 1 ≤ D.2.1 ∧ D.2.1 ≤ 60) {X : Nat → Tl} (hX : ∀ k, k < D.1 * D.2.1 → D.2.2 k = some (X k) ∧ okT n (X k)) {j : Int} (hj : -1000 ≤ j ∧ j ≤ 1000) {a : Nat} (ha : a < D.1) {r xr : Nat} (hr : r < pMd P) (h1 : RwC1 P Y h r xr) {pl : Nat} (hpl : j - pO P r = (pl : Int)) (hpc : pl + D.2.1 ≤ pL P r) : ∀ e b : Nat, b + e = D.2.1 → (∀ u, u < b → rAt P r (j + (u : Int)) = some (X (a * D.2.1 + u))) → Ex S rs_bears 75 [some (.ref 21), some (.int (nI (r))), some (.int (J (j))), some (.ref 33), some (.int (nI (a))), some (.ref (xr)), some (.int (nI (pl))), some (.int (nI (a * D.2.1))), some (.int (nI (b)))] [] h (Pu (.int (bI (tfB (∀ b, b < D.2.1 → rAt P r (j + (b : Int)) = some (X (a * D.2.1 + b)))))) h) := by
  have hro := hQ.2.1 _ hr
  have hmd : pMd P ≤ 6000 := hQ.1
  have hx0 := idx_lt ha (show 0 < D.2.1 by omega)
  have hxl := idx_lt ha (show D.2.1 - 1 < D.2.1 by omega)
  intro e
  induction e with
  | zero =>
    intro b hbe hev
    obtain rfl : D.2.1 = b := by omega
    refine Ex_iload d_rs_bears_75 rfl ?_
    refine Ex_aload_n d_rs_bears_77 rfl ?_
    refine Ex_getIE (y := (nI (D.2.1))) d_rs_bears_78 pf_rs_52 rfl (t_33 hs) hD.2.1 ?_
    refine Ex_icmp_geN (D.2.1) (D.2.1) 113 d_rs_bears_81 rfl rfl rfl (by omega) (by omega) (fun hc81 => ?_) (fun hc81 => ?_)
    · refine Ex_iconst d_rs_bears_113 ic_1 ?_
      refine Ex_zreturn d_rs_bears_114 rfl (by decide) ?_
      exact ⟨by rw [tfB_t (p := (∀ b, b < D.2.1 → rAt P r (j + (b : Int)) = some (X (a * D.2.1 + b)))) hev]; rfl, rfl⟩
    · exfalso; omega
  | succ e ih =>
    intro b hbe hev
    have hxb := idx_lt ha (show b < D.2.1 by omega)
    obtain ⟨w1, w2⟩ := hX _ hxb
    have hcell : rAt P r (j + (b : Int)) = some (pC P r (pl + b)) := by unfold rAt; rw [if_pos (by omega), show (j + (b : Int) - pO P r).toNat = pl + b by omega]
    have hok1 := hro.2.2.2 (pl + b) (by omega)
    refine Ex_iload d_rs_bears_75 rfl ?_
    refine Ex_aload_n d_rs_bears_77 rfl ?_
    refine Ex_getIE (y := (nI (D.2.1))) d_rs_bears_78 pf_rs_52 rfl (t_33 hs) hD.2.1 ?_
    refine Ex_icmp_geN (b) (D.2.1) 113 d_rs_bears_81 rfl rfl rfl (by omega) (by omega) (fun hc81 => ?_) (fun hc81 => ?_)
    · exfalso; omega
    · refine Ex_aload d_rs_bears_84 rfl ?_
      refine Ex_iload d_rs_bears_86 rfl ?_
      refine Ex_iload d_rs_bears_88 rfl ?_
      refine Ex_iaddN (pl) (b) d_rs_bears_90 rfl rfl ?_
      refine Ex_ialoadN (a := pl + b) (y := (eC (pC P r (pl + b)))) d_rs_bears_91 h1.2.2.1 rfl (by omega) (by omega) (h1.2.2.2.2 _ (by omega)) ?_
      refine Ex_aload_n d_rs_bears_92 rfl ?_
      refine Ex_getR (v := .ref 34) d_rs_bears_93 pf_rs_57 rfl (t_33 hs) (r_33_2 hs) ?_
      refine Ex_iload d_rs_bears_96 rfl ?_
      refine Ex_iload d_rs_bears_98 rfl ?_
      refine Ex_iaddN (a * D.2.1) (b) d_rs_bears_100 rfl rfl ?_
      refine Ex_ialoadN (a := (a * D.2.1) + b) (y := (eC (X (a * D.2.1 + b)))) d_rs_bears_101 (t_34 hs) rfl (by omega) (by omega) (by rw [hD.2.2 _ hxb, w1]; rfl) ?_
      refine Ex_icmp_eq 107 d_rs_bears_102 rfl (fun hc102 => ?_) (fun hc102 => ?_)
      · refine Ex_iincN (b) 1 [some (.ref 21), some (.int (nI (r))), some (.int (J (j))), some (.ref 33), some (.int (nI (a))), some (.ref (xr)), some (.int (nI (pl))), some (.int (nI (a * D.2.1))), some (.int (nI (b + 1)))] d_rs_bears_107 rfl rfl rfl rfl ?_
        refine Ex_goto 75 d_rs_bears_110 rfl ?_
        refine ih (b + 1) (by omega) (fun u hu => ?_)
        by_cases hub : u = b
        · rw [hub, hcell, (eC_inj (okT_mono hok1 hn) (okT_mono w2 hn)).mp hc102]
        · exact hev u (by omega)
      · refine Ex_iconst d_rs_bears_105 ic_0 ?_
        refine Ex_zreturn d_rs_bears_106 rfl (by decide) ?_
        exact ⟨by rw [tfB_f (p := (∀ b, b < D.2.1 → rAt P r (j + (b : Int)) = some (X (a * D.2.1 + b)))) (fun z => hc102 ((eC_inj (okT_mono hok1 hn) (okT_mono w2 hn)).mpr (by have q := z b (by omega); rw [hcell] at q; exact Option.some.inj q)))]; rfl, rfl⟩
theorem rs_bears_s {S : mj_S} {h : mj_H} (hs : HT h) {P : SP} {Y : OW} (hR : RwC P Y h) {n : Nat} (hn : n ≤ 40) (hQ : PO n P) {D : SG} (hD : BkC D 33 34 h) (hDc : D.1 * D.2.1 ≤ 3600) (hD6 : D.1 ≤ 60 ∧ 1 ≤ D.2.1 ∧ D.2.1 ≤ 60) {X : Nat → Tl} (hX : ∀ k, k < D.1 * D.2.1 → D.2.2 k = some (X k) ∧ okT n (X k)) {j : Int} (hj : -1000 ≤ j ∧ j ≤ 1000) {a : Nat} (ha : a < D.1) {r xr : Nat} (hr : r < pMd P) (h1 : RwC1 P Y h r xr) : Cl S rs_bears [.ref 21, .int (nI (r)), .int (J (j)), .ref 33, .int (nI (a))] h (Pu (.int (bI (tfB (∀ b, b < D.2.1 → rAt P r (j + (b : Int)) = some (X (a * D.2.1 + b)))))) h) := by
  show Ex S rs_bears 0 [some (.ref 21), some (.int (nI (r))), some (.int (J (j))), some (.ref 33), some (.int (nI (a))), none, none, none, none] [] h _
  have hro := hQ.2.1 _ hr
  have hmd : pMd P ≤ 6000 := hQ.1
  have hx0 := idx_lt ha (show 0 < D.2.1 by omega)
  have hxl := idx_lt ha (show D.2.1 - 1 < D.2.1 by omega)
  refine Ex_aload_n d_rs_bears_0 rfl ?_
  refine Ex_iload_n d_rs_bears_1 rfl ?_
  refine Ex_pV1 (v := .ref (xr)) d_rs_bears_2 pk_rs_bears_40 (t_21 hs) (rs_cellsOf_s hs hR hQ hr h1) ?_
  refine Ex_astore [some (.ref 21), some (.int (nI (r))), some (.int (J (j))), some (.ref 33), some (.int (nI (a))), some (.ref (xr)), none, none, none] d_rs_bears_5 (Nat.le_of_ble_eq_true rfl) rfl ?_
  refine Ex_iload_n d_rs_bears_7 rfl ?_
  refine Ex_aload_n d_rs_bears_8 rfl ?_
  refine Ex_iload_n d_rs_bears_9 rfl ?_
  refine Ex_pV1 (v := .int (J (pO P r))) d_rs_bears_10 pk_rs_bears_48 (t_21 hs) (rs_offsetOf_s hs hR hQ hr h1) ?_
  refine Ex_isubZ (j) (pO P r) d_rs_bears_13 rfl rfl ?_
  refine Ex_istore [some (.ref 21), some (.int (nI (r))), some (.int (J (j))), some (.ref 33), some (.int (nI (a))), some (.ref (xr)), some (.int (J (j - (pO P r)))), none, none] d_rs_bears_14 (Nat.le_of_ble_eq_true rfl) rfl ?_
  refine Ex_aload d_rs_bears_16 rfl ?_
  refine Ex_ifnull d_rs_bears_18 ?_
  refine Ex_iload d_rs_bears_21 rfl ?_
  refine Ex_if_ltZ (j - (pO P r)) 39 d_rs_bears_23 rfl rfl (by omega) (fun hc23 => ?_) (fun hc23 => ?_)
  · refine Ex_iconst d_rs_bears_39 ic_0 ?_
    refine Ex_zreturn d_rs_bears_40 rfl (by decide) ?_
    first
      | exact ⟨by rw [tfB_f (p := (∀ b, b < D.2.1 → rAt P r (j + (b : Int)) = some (X (a * D.2.1 + b)))) (fun z => by have q := z 0 (by omega); unfold rAt at q; rw [if_neg (by omega)] at q; cases q)]; rfl, rfl⟩
      | exact ⟨by rw [tfB_f (p := (∀ b, b < D.2.1 → rAt P r (j + (b : Int)) = some (X (a * D.2.1 + b)))) (fun z => by have q := z (D.2.1 - 1) (by omega); unfold rAt at q; rw [if_neg (by omega)] at q; cases q)]; rfl, rfl⟩
  · refine Ex_iload d_rs_bears_26 rfl ?_
    refine Ex_aload d_rs_bears_28 rfl ?_
    refine Ex_arraylength d_rs_bears_30 h1.2.2.1 (by decide) ?_
    refine Ex_aload_n d_rs_bears_31 rfl ?_
    refine Ex_getIE (y := (nI (D.2.1))) d_rs_bears_32 pf_rs_52 rfl (t_33 hs) hD.2.1 ?_
    refine Ex_isubZ (((pL P r : Nat) : Int)) (((D.2.1 : Nat) : Int)) d_rs_bears_35 (nIJ _) (nIJ _) ?_
    refine Ex_icmp_leZ (j - (pO P r)) ((((pL P r : Nat) : Int)) - (((D.2.1 : Nat) : Int))) 41 d_rs_bears_36 rfl rfl rfl (by omega) (by omega) (fun hc36 => ?_) (fun hc36 => ?_)
    · obtain ⟨pl, hpl⟩ : ∃ pl : Nat, j - pO P r = (pl : Int) := ⟨(j - pO P r).toNat, by omega⟩
      rw [hpl, ← nIJ]
      refine Ex_iload d_rs_bears_41 rfl ?_
      refine Ex_aload_n d_rs_bears_43 rfl ?_
      refine Ex_getIE (y := (nI (D.2.1))) d_rs_bears_44 pf_rs_52 rfl (t_33 hs) hD.2.1 ?_
      refine Ex_imulN (a) (D.2.1) d_rs_bears_47 rfl rfl ?_
      refine Ex_istore [some (.ref 21), some (.int (nI (r))), some (.int (J (j))), some (.ref 33), some (.int (nI (a))), some (.ref (xr)), some (.int (nI (pl))), some (.int (nI (a * D.2.1))), none] d_rs_bears_48 (Nat.le_of_ble_eq_true rfl) rfl ?_
      refine Ex_iload d_rs_bears_50 rfl ?_
      refine Ex_if_ltN (a * D.2.1) 70 d_rs_bears_52 rfl rfl (by omega) (fun hc52 => ?_) (fun hc52 => ?_)
      · exfalso; omega
      · refine Ex_iload d_rs_bears_55 rfl ?_
        refine Ex_aload_n d_rs_bears_57 rfl ?_
        refine Ex_getR (v := .ref 34) d_rs_bears_58 pf_rs_57 rfl (t_33 hs) (r_33_2 hs) ?_
        refine Ex_arraylength d_rs_bears_61 (t_34 hs) (by decide) ?_
        refine Ex_aload_n d_rs_bears_62 rfl ?_
        refine Ex_getIE (y := (nI (D.2.1))) d_rs_bears_63 pf_rs_52 rfl (t_33 hs) hD.2.1 ?_
        refine Ex_isubN (3600) (D.2.1) d_rs_bears_66 rfl rfl (by omega) ?_
        refine Ex_icmp_leN (a * D.2.1) (3600 - D.2.1) 72 d_rs_bears_67 rfl rfl rfl (by omega) (by omega) (fun hc67 => ?_) (fun hc67 => ?_)
        · refine Ex_iconst d_rs_bears_72 ic_0 ?_
          refine Ex_istore [some (.ref 21), some (.int (nI (r))), some (.int (J (j))), some (.ref 33), some (.int (nI (a))), some (.ref (xr)), some (.int (nI (pl))), some (.int (nI (a * D.2.1))), some (.int (0))] d_rs_bears_73 (Nat.le_of_ble_eq_true rfl) rfl ?_
          exact rs_bears_L hs hR hn hQ hD hDc hD6 hX hj ha hr h1 hpl (by omega) D.2.1 0 (by omega) (fun u hu => absurd hu (by omega))
        · exfalso; omega
    · refine Ex_iconst d_rs_bears_39 ic_0 ?_
      refine Ex_zreturn d_rs_bears_40 rfl (by decide) ?_
      first
        | exact ⟨by rw [tfB_f (p := (∀ b, b < D.2.1 → rAt P r (j + (b : Int)) = some (X (a * D.2.1 + b)))) (fun z => by have q := z 0 (by omega); unfold rAt at q; rw [if_neg (by omega)] at q; cases q)]; rfl, rfl⟩
        | exact ⟨by rw [tfB_f (p := (∀ b, b < D.2.1 → rAt P r (j + (b : Int)) = some (X (a * D.2.1 + b)))) (fun z => by have q := z (D.2.1 - 1) (by omega); unfold rAt at q; rw [if_neg (by omega)] at q; cases q)]; rfl, rfl⟩
theorem rs_bears_n {S : mj_S} {h : mj_H} (hs : HT h) {j : Int} {a : Nat} : Cl S rs_bears [.ref 21, .int (-1), .int (J (j)), .ref 33, .int (nI (a))] h (Pu (.int (bI false)) h) := by
  show Ex S rs_bears 0 [some (.ref 21), some (.int (-1)), some (.int (J (j))), some (.ref 33), some (.int (nI (a))), none, none, none, none] [] h _
  refine Ex_aload_n d_rs_bears_0 rfl ?_
  refine Ex_iload_n d_rs_bears_1 rfl ?_
  refine Ex_pV1 (v := .null) d_rs_bears_2 pk_rs_bears_40 (t_21 hs) rs_cellsOf_n ?_
  refine Ex_astore0 [some (.ref 21), some (.int (-1)), some (.int (J (j))), some (.ref 33), some (.int (nI (a))), some (.null), none, none, none] d_rs_bears_5 (Nat.le_of_ble_eq_true rfl) rfl ?_
  refine Ex_iload_n d_rs_bears_7 rfl ?_
  refine Ex_aload_n d_rs_bears_8 rfl ?_
  refine Ex_iload_n d_rs_bears_9 rfl ?_
  refine Ex_pV1 (v := .int (0)) d_rs_bears_10 pk_rs_bears_48 (t_21 hs) rs_offsetOf_n ?_
  refine Ex_isubZ (j) ((0)) d_rs_bears_13 rfl (by decide) ?_
  refine Ex_istore [some (.ref 21), some (.int (-1)), some (.int (J (j))), some (.ref 33), some (.int (nI (a))), some (.null), some (.int (J (j - ((0))))), none, none] d_rs_bears_14 (Nat.le_of_ble_eq_true rfl) rfl ?_
  refine Ex_aload0 d_rs_bears_16 rfl ?_
  refine Ex_ifnull0 39 d_rs_bears_18 rfl ?_
  refine Ex_iconst d_rs_bears_39 ic_0 ?_
  refine Ex_zreturn d_rs_bears_40 rfl (by decide) ?_
  exact ⟨rfl, rfl⟩
theorem pa_bears_L {S : mj_S} {h : mj_H} (hs : HT h) {P : SP} {Y : OW} (hR : RwC P Y h) {n : Nat} (hn : n ≤ 40) (hQ : PO n P) {x y : Nat} {l : List Nat} (hB : Pob h x y l) (hl : okL (pMd P) l) {D : SG} (hD : BkC D 33 34 h) (hDc : D.1 * D.2.1 ≤ 3600) (hD6 : D.1 ≤ 60 ∧ 1 ≤ D.2.1 ∧ D.2.1 ≤ 60) {X : Nat → Tl} (hX : ∀ k, k < D.1 * D.2.1 → D.2.2 k = some (X k) ∧ okT n (X k)) {j : Int} (hj : -1000 ≤ j ∧ j ≤ 1000) {i : Nat} (hi : i ≤ 60) : ∀ e a : Nat, a + e = D.1 → (∀ u, u < a → ∀ b, b < D.2.1 → lAt P l ((i : Int) + (u : Int)) (j + (b : Int)) = some (X (u * D.2.1 + b))) → Ex S pa_bears 3 [some (.ref (x)), some (.ref 33), some (.int (nI (i))), some (.int (J (j))), some (.int (nI (a)))] [] h (Pu (.int (bI (tfB (∀ a, a < D.1 → ∀ b, b < D.2.1 → lAt P l ((i : Int) + (a : Int)) (j + (b : Int)) = some (X (a * D.2.1 + b)))))) h) := by
  have hl60 := hl.1
  intro e
  induction e with
  | zero =>
    intro a hae hev
    obtain rfl : D.1 = a := by omega
    refine Ex_iload d_pa_bears_3 rfl ?_
    refine Ex_aload_n d_pa_bears_5 rfl ?_
    refine Ex_getIE (y := (nI (D.1))) d_pa_bears_6 pf_pa_63 rfl (t_33 hs) hD.1 ?_
    refine Ex_icmp_geN (D.1) (D.1) 43 d_pa_bears_9 rfl rfl rfl (by omega) (by omega) (fun hc9 => ?_) (fun hc9 => ?_)
    · refine Ex_iconst d_pa_bears_43 ic_1 ?_
      refine Ex_zreturn d_pa_bears_44 rfl (by decide) ?_
      exact ⟨by rw [tfB_t (p := (∀ a, a < D.1 → ∀ b, b < D.2.1 → lAt P l ((i : Int) + (a : Int)) (j + (b : Int)) = some (X (a * D.2.1 + b)))) hev]; rfl, rfl⟩
    · exfalso; omega
  | succ e ih =>
    intro a hae hev
    by_cases hin : i + a < l.length
    · have hrow := hl.2 _ (getD_mem hin)
      obtain ⟨xr, h1⟩ := hR.2 _ hrow
      have hlr : ∀ b : Nat, lAt P l ((i : Int) + (a : Int)) (j + (b : Int)) = rAt P (l.getD (i + a) 0) (j + (b : Int)) := fun b => by unfold lAt; rw [if_pos (by omega), show ((i : Int) + (a : Int)).toNat = i + a by omega]
      refine Ex_iload d_pa_bears_3 rfl ?_
      refine Ex_aload_n d_pa_bears_5 rfl ?_
      refine Ex_getIE (y := (nI (D.1))) d_pa_bears_6 pf_pa_63 rfl (t_33 hs) hD.1 ?_
      refine Ex_icmp_geN (a) (D.1) 43 d_pa_bears_9 rfl rfl rfl (by omega) (by omega) (fun hc9 => ?_) (fun hc9 => ?_)
      · exfalso; omega
      · refine Ex_aload_n d_pa_bears_12 rfl ?_
        refine Ex_getR (v := .ref 21) d_pa_bears_13 pf_pa_15 rfl hB.1.1 (congrArg va_rf hB.1.2.1) ?_
        refine Ex_aload_n d_pa_bears_16 rfl ?_
        refine Ex_iload_n d_pa_bears_17 rfl ?_
        refine Ex_iload d_pa_bears_18 rfl ?_
        refine Ex_iaddN (i) (a) d_pa_bears_20 rfl rfl ?_
        refine Ex_i2lZ (((i + a : Nat) : Int)) d_pa_bears_21 (nIJ _) (by omega) ?_
        refine Ex_pV1 (v := .int (nI (l.getD (i + a) 0))) d_pa_bears_22 pk_pa_bears_27 hB.1.1 (by have z := pa_idAt_s (S := S) hB hl60 (i := ((i + a : Nat) : Int)) (by omega); rw [show idS l ((i + a : Nat) : Int) = ((l.getD (i + a) 0 : Nat) : Int) by unfold idS; rw [if_pos (by omega), Int.toNat_natCast], ← nIJ] at z; exact z) ?_
        refine Ex_iload_n d_pa_bears_25 rfl ?_
        refine Ex_aload_n d_pa_bears_26 rfl ?_
        refine Ex_iload d_pa_bears_27 rfl ?_
        refine Ex_pV4 (v := .int (bI (tfB (∀ b, b < D.2.1 → rAt P (l.getD (i + a) 0) (j + (b : Int)) = some (X (a * D.2.1 + b)))))) d_pa_bears_29 pk_pa_bears_75 (t_21 hs) (rs_bears_s hs hR hn hQ hD hDc hD6 hX hj (by omega) hrow h1) ?_
        refine Ex_if_neB (tfB (∀ b, b < D.2.1 → rAt P (l.getD (i + a) 0) (j + (b : Int)) = some (X (a * D.2.1 + b)))) 37 d_pa_bears_32 rfl rfl (fun hc32 => ?_) (fun hc32 => ?_)
        · refine Ex_iincN (a) 1 [some (.ref (x)), some (.ref 33), some (.int (nI (i))), some (.int (J (j))), some (.int (nI (a + 1)))] d_pa_bears_37 rfl rfl rfl rfl ?_
          refine Ex_goto 3 d_pa_bears_40 rfl ?_
          refine ih (a + 1) (by omega) (fun u hu b hb => ?_)
          by_cases hua : u = a
          · rw [hua, hlr b]; exact tfB_iff.mp hc32 b hb
          · exact hev u (by omega) b hb
        · refine Ex_iconst d_pa_bears_35 ic_0 ?_
          refine Ex_zreturn d_pa_bears_36 rfl (by decide) ?_
          exact ⟨by rw [tfB_f (p := (∀ a, a < D.1 → ∀ b, b < D.2.1 → lAt P l ((i : Int) + (a : Int)) (j + (b : Int)) = some (X (a * D.2.1 + b)))) (fun z => tfB_ff hc32 (fun b hb => by rw [← hlr b]; exact z a (by omega) b hb))]; rfl, rfl⟩
    · refine Ex_iload d_pa_bears_3 rfl ?_
      refine Ex_aload_n d_pa_bears_5 rfl ?_
      refine Ex_getIE (y := (nI (D.1))) d_pa_bears_6 pf_pa_63 rfl (t_33 hs) hD.1 ?_
      refine Ex_icmp_geN (a) (D.1) 43 d_pa_bears_9 rfl rfl rfl (by omega) (by omega) (fun hc9 => ?_) (fun hc9 => ?_)
      · exfalso; omega
      · refine Ex_aload_n d_pa_bears_12 rfl ?_
        refine Ex_getR (v := .ref 21) d_pa_bears_13 pf_pa_15 rfl hB.1.1 (congrArg va_rf hB.1.2.1) ?_
        refine Ex_aload_n d_pa_bears_16 rfl ?_
        refine Ex_iload_n d_pa_bears_17 rfl ?_
        refine Ex_iload d_pa_bears_18 rfl ?_
        refine Ex_iaddN (i) (a) d_pa_bears_20 rfl rfl ?_
        refine Ex_i2lZ (((i + a : Nat) : Int)) d_pa_bears_21 (nIJ _) (by omega) ?_
        refine Ex_pV1 (v := .int (-1)) d_pa_bears_22 pk_pa_bears_27 hB.1.1 (by have z := pa_idAt_s (S := S) hB hl60 (i := ((i + a : Nat) : Int)) (by omega); rw [show idS l ((i + a : Nat) : Int) = -1 by unfold idS; rw [if_neg (by omega)]] at z; exact z) ?_
        refine Ex_iload_n d_pa_bears_25 rfl ?_
        refine Ex_aload_n d_pa_bears_26 rfl ?_
        refine Ex_iload d_pa_bears_27 rfl ?_
        refine Ex_pV4 (v := .int (bI (false))) d_pa_bears_29 pk_pa_bears_75 (t_21 hs) (rs_bears_n hs) ?_
        refine Ex_if_neB (false) 37 d_pa_bears_32 rfl rfl (fun hc32 => ?_) (fun hc32 => ?_)
        · cases hc32
        · refine Ex_iconst d_pa_bears_35 ic_0 ?_
          refine Ex_zreturn d_pa_bears_36 rfl (by decide) ?_
          exact ⟨by rw [tfB_f (p := (∀ a, a < D.1 → ∀ b, b < D.2.1 → lAt P l ((i : Int) + (a : Int)) (j + (b : Int)) = some (X (a * D.2.1 + b)))) (fun z => by have q := z a (by omega) 0 (by omega); unfold lAt at q; rw [if_neg (by omega)] at q; cases q)]; rfl, rfl⟩
theorem pa_bears_s {S : mj_S} {h : mj_H} (hs : HT h) {P : SP} {Y : OW} (hR : RwC P Y h) {n : Nat} (hn : n ≤ 40) (hQ : PO n P) {x y : Nat} {l : List Nat} (hB : Pob h x y l) (hl : okL (pMd P) l) {D : SG} (hD : BkC D 33 34 h) (hDc : D.1 * D.2.1 ≤ 3600) (hD6 : D.1 ≤ 60 ∧ 1 ≤ D.2.1 ∧ D.2.1 ≤ 60) {X : Nat → Tl} (hX : ∀ k, k < D.1 * D.2.1 → D.2.2 k = some (X k) ∧ okT n (X k)) {j : Int} (hj : -1000 ≤ j ∧ j ≤ 1000) {i : Nat} (hi : i ≤ 60) : Cl S pa_bears [.ref (x), .ref 33, .int (nI (i)), .int (J (j))] h (Pu (.int (bI (tfB (∀ a, a < D.1 → ∀ b, b < D.2.1 → lAt P l ((i : Int) + (a : Int)) (j + (b : Int)) = some (X (a * D.2.1 + b)))))) h) := by
  show Ex S pa_bears 0 [some (.ref (x)), some (.ref 33), some (.int (nI (i))), some (.int (J (j))), none] [] h _
  refine Ex_iconst d_pa_bears_0 ic_0 ?_
  refine Ex_istore [some (.ref (x)), some (.ref 33), some (.int (nI (i))), some (.int (J (j))), some (.int (0))] d_pa_bears_1 (Nat.le_of_ble_eq_true rfl) rfl ?_
  exact pa_bears_L hs hR hn hQ hB hl hD hDc hD6 hX hj hi D.1 0 (by omega) (fun u hu => absurd hu (by omega))
theorem pa_isBlock_s {S : mj_S} {h : mj_H} (hs : HT h) {K : SK} (hO : KO K) {P : SP} {Y : OW} (hR : RwC P Y h) (hQ : PO K.1 P) {p q m : Nat} (hp : p < pNp P) (hq : q < pNp P) (hf : fullP P p) (hg : fullP P q) {x y : Nat} (hB : Pob h x y (pPat P q)) (hD : BkC (tnG K (whG P p) m) 33 34 h) : Cl S pa_isBlock [.ref (x), .ref 33] h (Pu (.int (bI (tfB (mvP K P p m q)))) h) := by
  show Ex S pa_isBlock 0 [some (.ref (x)), some (.ref 33)] [] h _
  have hok := hQ.2.2.2.1 q hq
  have hl60 : ln P q ≤ 60 := hok.1
  have hp60 : ln P p ≤ 60 := (hQ.2.2.2.1 p hp).1
  have hLO : LO K.1 (lp P p) := lv0_ok hQ (hQ.2.2.2.1 p hp)
  have hLQ : LO K.1 (lp P q) := lv0_ok hQ hok
  have hw60 : wd P p ≤ 60 := (hLO.2 0 hf.1).1.1
  have hv60 : wd P q ≤ 60 := (hLQ.2 0 hg.1).1.1
  have f1 := hf.1
  have f2 := hf.2.1
  have ht60 : (1 ≤ tRp P p m ∧ tRp P p m ≤ 60) ∧ 1 ≤ tCp P p m ∧ tCp P p m ≤ 60 := by unfold tRp tCp tR tC; split <;> omega
  have ht36 : tRp P p m * tCp P p m ≤ 60 * 60 := mul_le ht60.1.2 ht60.2.2
  have hS := Src_0 P (pPat P q)
  refine Ex_aload_n d_pa_isBlock_0 rfl ?_
  refine Ex_getIE (y := (nI (tRp P p m))) d_pa_isBlock_1 pf_pa_63 rfl (t_33 hs) hD.1 ?_
  refine Ex_aload_n d_pa_isBlock_4 rfl ?_
  refine Ex_getIE (y := (nI (ln P q))) d_pa_isBlock_5 pf_pa_19 rfl hB.1.1 hB.2.1 ?_
  refine Ex_icmp_neN (tRp P p m) (ln P q) 37 d_pa_isBlock_8 rfl rfl rfl (by omega) (by omega) (fun hc8 => ?_) (fun hc8 => ?_)
  · refine Ex_iconst d_pa_isBlock_37 ic_0 ?_
    refine Ex_zreturn d_pa_isBlock_38 rfl (by decide) ?_
    refine ⟨?_, rfl⟩
    rw [tfB_f (p := mvP K P p m q) (fun z => ?_)]
    · rfl
    · first
      | exact hc8 z.1
      | exact hc20 z.2.1
      | exact tfB_ff hc30 (heq.mp z.2.2)
  · refine Ex_aload_n d_pa_isBlock_11 rfl ?_
    refine Ex_getIE (y := (nI (tCp P p m))) d_pa_isBlock_12 pf_pa_68 rfl (t_33 hs) hD.2.1 ?_
    refine Ex_aload_n d_pa_isBlock_15 rfl ?_
    refine Ex_iconst d_pa_isBlock_16 ic_0 ?_
    refine Ex_pV1 (v := .int (nI (wd P q))) d_pa_isBlock_17 pk_pa_isBlock_56 hB.1.1 (pa_len_u (u := 0) hs hR hQ hB hok hS hg.1) ?_
    refine Ex_icmp_neN (tCp P p m) (wd P q) 37 d_pa_isBlock_20 rfl rfl rfl (by omega) (by omega) (fun hc20 => ?_) (fun hc20 => ?_)
    · refine Ex_iconst d_pa_isBlock_37 ic_0 ?_
      refine Ex_zreturn d_pa_isBlock_38 rfl (by decide) ?_
      refine ⟨?_, rfl⟩
      rw [tfB_f (p := mvP K P p m q) (fun z => ?_)]
      · rfl
      · first
        | exact hc8 z.1
        | exact hc20 z.2.1
        | exact tfB_ff hc30 (heq.mp z.2.2)
    · have heq : (∀ k, k < tRp P p m * tCp P p m → mvX K P p m (k / tCp P p m) (k % tCp P p m) = gX (lp P q) (k / tCp P p m) (k % tCp P p m)) ↔ (∀ a, a < tRp P p m → ∀ b, b < tCp P p m → lAt P (pPat P q) (((0 : Nat) : Int) + (a : Int)) (0 + (b : Int)) = some ((fun k => mvX K P p m (k / tCp P p m) (k % tCp P p m)) (a * tCp P p m + b))) := by
        have hat : ∀ a b : Nat, a < tRp P p m → b < tCp P p m → lAt P (pPat P q) (((0 : Nat) : Int) + (a : Int)) (0 + (b : Int)) = some (gX (lp P q) a b) := fun a b ha hb => by
          have z := full_at hQ hq hg (i := a) (j := b) (by omega) (by omega)
          rw [show (((0 : Nat) : Int) + (a : Int)) = (a : Int) by omega, Int.zero_add]
          exact z
        constructor
        · intro z a ha b hb
          have q := z _ (idx_lt ha hb)
          rw [(idx_dm hb).1, (idx_dm hb).2] at q
          rw [hat a b ha hb, ← q]
          show _ = some (mvX K P p m ((a * tCp P p m + b) / tCp P p m) ((a * tCp P p m + b) % tCp P p m))
          rw [(idx_dm hb).1, (idx_dm hb).2]
        · intro z k hk
          obtain ⟨g1, g2, -⟩ := dm_lt hk
          have q := z _ g1 _ g2
          rw [hat _ _ g1 g2, dm_eq] at q
          exact (Option.some.inj q).symm
      refine Ex_aload_n d_pa_isBlock_23 rfl ?_
      refine Ex_aload_n d_pa_isBlock_24 rfl ?_
      refine Ex_iconst d_pa_isBlock_25 ic_0 ?_
      refine Ex_iconst d_pa_isBlock_26 ic_0 ?_
      refine Ex_pV3 (v := .int (bI (tfB (∀ a, a < tRp P p m → ∀ b, b < tCp P p m → lAt P (pPat P q) (((0 : Nat) : Int) + (a : Int)) (0 + (b : Int)) = some ((fun k => mvX K P p m (k / tCp P p m) (k % tCp P p m)) (a * tCp P p m + b)))))) d_pa_isBlock_27 pk_pa_isBlock_71 hB.1.1 (show Cl S pa_bears [.ref x, .ref 33, .int 0, .int 0] h _ from (pa_bears_s (X := (fun k => mvX K P p m (k / tCp P p m) (k % tCp P p m))) (D := tnG K (whG P p) m) hs hR hO.1 hQ hB hok hD (show tRp P p m * tCp P p m ≤ 3600 by omega) (show tRp P p m ≤ 60 ∧ 1 ≤ tCp P p m ∧ tCp P p m ≤ 60 by omega) (fun k hk => ⟨wh_mv hQ hp hf hk, by obtain ⟨g1, g2, -⟩ := dm_lt hk; exact mvX_ok hO hQ hp hf g1 g2⟩) (j := 0) (by omega) (i := 0) (by omega))) ?_
      refine Ex_if_eqB (tfB (∀ a, a < tRp P p m → ∀ b, b < tCp P p m → lAt P (pPat P q) (((0 : Nat) : Int) + (a : Int)) (0 + (b : Int)) = some ((fun k => mvX K P p m (k / tCp P p m) (k % tCp P p m)) (a * tCp P p m + b)))) 37 d_pa_isBlock_30 rfl rfl (fun hc30 => ?_) (fun hc30 => ?_)
      · refine Ex_iconst d_pa_isBlock_37 ic_0 ?_
        refine Ex_zreturn d_pa_isBlock_38 rfl (by decide) ?_
        refine ⟨?_, rfl⟩
        rw [tfB_f (p := mvP K P p m q) (fun z => ?_)]
        · rfl
        · first
          | exact hc8 z.1
          | exact hc20 z.2.1
          | exact tfB_ff hc30 (heq.mp z.2.2)
      · refine Ex_iconst d_pa_isBlock_33 ic_1 ?_
        refine Ex_goto 38 d_pa_isBlock_34 rfl ?_
        refine Ex_zreturn d_pa_isBlock_38 rfl (by decide) ?_
        exact ⟨by rw [tfB_t (p := mvP K P p m q) ⟨hc8, hc20, heq.mpr (tfB_iff.mp hc30)⟩]; rfl, rfl⟩
def WSc (a k : Nat) : Prop := a = 32 ∨ a = 34 ∨ a = 35 ∨ ((a = 31 ∨ a = 33) ∧ (k = 0 ∨ k = 1))
theorem WSc_st : ∀ q ∈ statR, ¬ WSc q.1 q.2.1 := by unfold WSc; decide
theorem W31_S : ∀ x k, Wbk 31 32 x k → WSc x k := by intro x k; unfold Wbk WSc; omega
theorem W33_S : ∀ x k, Wbk 33 34 x k → WSc x k := by intro x k; unfold Wbk WSc; omega
theorem PC_S {P : SP} {Y : OW} {h h' : mj_H} (hs : HT h) (f : Fr WSc h h') (hP : PC P Y h) : PC P Y h' := PC_fr hs f (by intro a k; unfold WRc WPc WHc WSc; omega) OwE.rf hP
theorem KC_S {K : SK} {h h' : mj_H} (hs : HT h) (f : Fr WSc h h') (hK : KC K h) : KC K h' := KC_fr hs f (by intro a k; unfold WKC WSc; omega) hK
theorem PaC1_S {P : SP} {Y : OW} {h h' : mj_H} (hs : HT h) (f : Fr WSc h h') {p x y : Nat} (hx : PaC1 P Y h p x y) : PaC1 P Y h' p x y := PaC1_fr hs f (by unfold WSc; omega) (fun k => by have := hx.1.1; unfold WSc; omega) (fun k => by have := hx.1.2.1; unfold WSc; omega) OwE.rf hx
theorem to_kept_L {S : mj_S} {Q : Option Value → mj_H → Prop} {h : mj_H} (hs : HT h) {K : SK} (hK : KC K h) (hO : KO K) {P : SP} {Y : OW} (hP : PC P Y h) (hQ : PO K.1 P) {p x y : Nat} (hp : p < pNp P) (hx : PaC1 P Y h p x y) (hf : fullP P p) {z1 : Int32}
    (kx : ∀ h1 : mj_H, (Fr WSc h h1 ∧ BkC (whG P p) 31 32 h1) → Ex S to_kept 84 [some (.ref 0), some (.int (z1)), some (.ref (x)), some (.int (nI (kbits (fun m => tfB (mvP K P p m p)) 8))), some (.int (nI (8)))] [] h1 Q) : ∀ d m : Nat, m + d = 8 → ∀ h1 : mj_H, (Fr WSc h h1 ∧ BkC (whG P p) 31 32 h1) → Ex S to_kept 32 [some (.ref 0), some (.int (z1)), some (.ref (x)), some (.int (nI (kbits (fun m => tfB (mvP K P p m p)) m))), some (.int (nI (m)))] [] h1 Q := by
  have hok := hQ.2.2.2.1 p hp
  have hl60 : ln P p ≤ 60 := hok.1
  have hLO : LO K.1 (lp P p) := lv0_ok hQ hok
  have hB := hx.2.2
  have hS := Src_0 P (pPat P p)
  have hnp := hQ.2.2.1
  have hk40 := hO.1
  have hwe : gL (lp P p) 0 = wd P p := rfl
  have hle : (pPat P p).length = ln P p := rfl
  have hw60 : wd P p ≤ 60 := (hLO.2 0 hf.1).1.1
  have hcap : ln P p * wd P p ≤ 3600 := mul_le hl60 hw60
  intro d
  induction d with
  | zero =>
    intro m hkk h1 hI
    obtain rfl : 8 = m := by omega
    refine Ex_iload d_to_kept_32 rfl ?_
    refine Ex_bipush d_to_kept_34 bp_8 ?_
    refine Ex_icmp_geN (8) (8) 84 d_to_kept_36 rfl rfl rfl (by omega) (by omega) (fun hc36 => ?_) (fun hc36 => ?_)
    · exact kx h1 hI
    · exfalso; omega
  | succ d ih =>
    intro m hkk h1 hI
    have f1 := hI.1
    have hs1 : HT h1 := f1.ht hs WSc_st
    have hP1 := PC_S hs f1 hP
    have hK1 := KC_S hs f1 hK
    have hx1 := PaC1_S hs f1 hx
    have hkb := kbits_lt (fun m => tfB (mvP K P p m p)) m
    have hpw : 2 ^ m ≤ 2 ^ 7 := Nat.pow_le_pow_right (by omega) (by omega)
    refine Ex_iload d_to_kept_32 rfl ?_
    refine Ex_bipush d_to_kept_34 bp_8 ?_
    refine Ex_icmp_geN (m) (8) 84 d_to_kept_36 rfl rfl rfl (by omega) (by omega) (fun hc36 => ?_) (fun hc36 => ?_)
    · exfalso; omega
    · refine Ex_aload_n d_to_kept_39 rfl ?_
      refine Ex_getR (v := .ref 33) d_to_kept_40 pf_to_71 rfl (t_0 hs1) (r_0_7 hs1) ?_
      refine Ex_aload_n d_to_kept_43 rfl ?_
      refine Ex_getR (v := .ref 31) d_to_kept_44 pf_to_68 rfl (t_0 hs1) (r_0_6 hs1) ?_
      refine Ex_iload d_to_kept_47 rfl ?_
      refine Ex_aload_n d_to_kept_49 rfl ?_
      refine Ex_getR (v := .ref 1) d_to_kept_50 pf_to_20 rfl (t_0 hs1) (r_0_0 hs1) ?_
      refine Ex_cV3 d_to_kept_53 pk_to_kept_239 (t_33 hs1) (bl_takeMoved_s hs1 bk33 bk31 (by decide) hK1 hO hI.2 hcap hcap (fun k hk => by rw [wh_at hQ hp hf hk]; obtain ⟨g1, g2, -⟩ := dm_lt hk; exact (hLO.2 _ g1).2 _ (by rw [(hf.2.2 _ g1).2]; exact g2)) hl60 hw60 (m := m) (by omega)) ?_
      rintro rv h2 ⟨rfl, hD2, f2⟩
      have f2s : Fr WSc h1 h2 := f2.mono W33_S
      have hs2 : HT h2 := f2s.ht hs1 WSc_st
      have hP2 := PC_S hs1 f2s hP1
      have hI2 : BkC (whG P p) 31 32 h2 := BkC_fr hs1 bk31 f2 (by intro x k; unfold Wbk; omega) hI.2
      show Ex S to_kept 56 [some (.ref 0), some (.int (z1)), some (.ref (x)), some (.int (nI (kbits (fun m => tfB (mvP K P p m p)) m))), some (.int (nI (m)))] [] h2 _
      refine Ex_iload_n d_to_kept_56 rfl ?_
      refine Ex_aload_n d_to_kept_57 rfl ?_
      refine Ex_aload_n d_to_kept_58 rfl ?_
      refine Ex_getR (v := .ref 33) d_to_kept_59 pf_to_71 rfl (t_0 hs2) (r_0_7 hs2) ?_
      refine Ex_pV1 (v := .int (bI (tfB (mvP K P p m p)))) d_to_kept_62 pk_to_kept_332 (PaC1_S hs1 f2s hx1).2.2.1.1 (pa_isBlock_s hs2 hO hP2.1 hQ hp hp hf hf (PaC1_S hs1 f2s hx1).2.2 hD2) ?_
      refine Ex_if_eqB (tfB (mvP K P p m p)) 75 d_to_kept_65 rfl rfl (fun hc65 => ?_) (fun hc65 => ?_)
      · refine Ex_iconst d_to_kept_75 ic_0 ?_
        refine Ex_ior d_to_kept_76 ?_
        rw [show (((nI (kbits (fun m => tfB (mvP K P p m p)) m)) ||| (0 : Int32)) : Int32) = (nI (kbits (fun m => tfB (mvP K P p m p)) m)) from (kb_0 _)]
        refine Ex_istore_n [some (.ref 0), some (.int (z1)), some (.ref (x)), some (.int (nI (kbits (fun m => tfB (mvP K P p m p)) m))), some (.int (nI (m)))] d_to_kept_77 (Nat.le_of_ble_eq_true rfl) rfl ?_
        refine Ex_iincN (m) 1 [some (.ref 0), some (.int (z1)), some (.ref (x)), some (.int (nI (kbits (fun m => tfB (mvP K P p m p)) m))), some (.int (nI (m + 1)))] d_to_kept_78 rfl rfl rfl rfl ?_
        refine Ex_goto 32 d_to_kept_81 rfl ?_
        have z := ih (m + 1) (by omega)
        rw [show kbits (fun m => tfB (mvP K P p m p)) (m + 1) = kbits (fun m => tfB (mvP K P p m p)) m + 0 by
          show _ + _ = _
          rw [if_neg (by show ¬ tfB (mvP K P p m p) = true; rw [hc65]; decide)]] at z
        rw [Nat.add_zero] at z
        exact z h2 ⟨f1.tr f2s, hI2⟩
      · refine Ex_iconst d_to_kept_68 ic_1 ?_
        refine Ex_iload d_to_kept_69 rfl ?_
        refine Ex_ishl d_to_kept_71 ?_
        rw [show (((1 : Int32) <<< ((nI (m)) &&& 31)) : Int32) = (nI (2 ^ m)) from (show (1 : Int32) <<< (nI m &&& 31) = nI (2 ^ m) by have z := nI_shl 1 (j := m) (by omega); rw [Nat.one_mul] at z; exact z)]
        refine Ex_goto 76 d_to_kept_72 rfl ?_
        refine Ex_ior d_to_kept_76 ?_
        rw [show (((nI (kbits (fun m => tfB (mvP K P p m p)) m)) ||| (nI (2 ^ m))) : Int32) = (nI (kbits (fun m => tfB (mvP K P p m p)) m + 2 ^ m)) from (kb_or (kbits_lt _ m))]
        refine Ex_istore_n [some (.ref 0), some (.int (z1)), some (.ref (x)), some (.int (nI (kbits (fun m => tfB (mvP K P p m p)) m + 2 ^ m))), some (.int (nI (m)))] d_to_kept_77 (Nat.le_of_ble_eq_true rfl) rfl ?_
        refine Ex_iincN (m) 1 [some (.ref 0), some (.int (z1)), some (.ref (x)), some (.int (nI (kbits (fun m => tfB (mvP K P p m p)) m + 2 ^ m))), some (.int (nI (m + 1)))] d_to_kept_78 rfl rfl rfl rfl ?_
        refine Ex_goto 32 d_to_kept_81 rfl ?_
        have z := ih (m + 1) (by omega)
        rw [show kbits (fun m => tfB (mvP K P p m p)) (m + 1) = kbits (fun m => tfB (mvP K P p m p)) m + 2 ^ m by
          show _ + _ = _
          rw [if_pos hc65]] at z
        exact z h2 ⟨f1.tr f2s, hI2⟩
theorem to_kept_s {S : mj_S} {h : mj_H} (hs : HT h) {K : SK} (hK : KC K h) (hO : KO K) {P : SP} {Y : OW} (hP : PC P Y h) (hQ : PO K.1 P) {p : Int} (hp : -2147483648 ≤ p ∧ p < 2147483648) : Cl S to_kept [.ref 0, .int (J p)] h (PuF (.int (J (keptS K P p))) WSc h) := by
  show Ex S to_kept 0 [some (.ref 0), some (.int (J (p))), none, none, none] [] h _
  by_cases hpp : 0 ≤ p ∧ p < pNp P
  · obtain ⟨x, y, hx⟩ := hP.2.1.2 p.toNat (by omega)
    have hB := hx.2.2
    have hok := hQ.2.2.2.1 p.toNat (by omega)
    have hlen := hok.1
    have hx74 := hx.1.1
    have hy74 := hx.1.2.1
    refine Ex_aload_n d_to_kept_0 rfl ?_
    refine Ex_iload_n d_to_kept_1 rfl ?_
    refine Ex_pV1 (v := .ref (x)) d_to_kept_2 pk_to_kept_139 (t_0 hs) (to_patternOf_z hs hP hQ hpp hx) ?_
    refine Ex_astore_n [some (.ref 0), some (.int (J (p))), some (.ref (x)), none, none] d_to_kept_5 (Nat.le_of_ble_eq_true rfl) rfl ?_
    refine Ex_aload_n d_to_kept_6 rfl ?_
    refine Ex_ifnonnull 12 d_to_kept_7 rfl ?_
    refine Ex_iconst d_to_kept_12 ic_0 ?_
    refine Ex_istore_n [some (.ref 0), some (.int (J (p))), some (.ref (x)), some (.int (0)), none] d_to_kept_13 (Nat.le_of_ble_eq_true rfl) rfl ?_
    refine Ex_aload_n d_to_kept_14 rfl ?_
    refine Ex_pV0 (v := .int (bI (tfB (fullP P p.toNat)))) d_to_kept_15 pk_to_kept_327 hB.1.1 (pa_isFull_s hs hK hO hP hQ (by omega) hx) ?_
    refine Ex_if_eqB (tfB (fullP P p.toNat)) 84 d_to_kept_18 rfl rfl (fun hc18 => ?_) (fun hc18 => ?_)
    · refine Ex_iload_n d_to_kept_84 rfl ?_
      refine Ex_ireturn d_to_kept_85 rfl ?_
      refine ⟨?_, Fr.rf⟩
      unfold keptS
      rw [if_pos hpp, if_neg (by rw [hc18]; decide)]
      rfl
    · have hf := tfB_iff.mp hc18
      have hLO : LO K.1 (lp P p.toNat) := lv0_ok hQ hok
      have hw60 : wd P p.toNat ≤ 60 := (hLO.2 0 hf.1).1.1
      have hcap : ln P p.toNat * wd P p.toNat ≤ 3600 := mul_le hlen hw60
      refine Ex_aload_n d_to_kept_21 rfl ?_
      refine Ex_getR (v := .ref 31) d_to_kept_22 pf_to_68 rfl (t_0 hs) (r_0_6 hs) ?_
      refine Ex_aload_n d_to_kept_25 rfl ?_
      refine Ex_cV1 d_to_kept_26 pk_to_kept_328 (t_31 hs) (bl_takeWhole_s hs hK hO hP hQ (by omega) hx hf bk31 hcap) ?_
      rintro rv h1 ⟨rfl, hD1, f1⟩
      show Ex S to_kept 29 [some (.ref 0), some (.int (J (p))), some (.ref (x)), some (.int (0)), none] [] h1 _
      refine Ex_iconst d_to_kept_29 ic_0 ?_
      refine Ex_istore [some (.ref 0), some (.int (J (p))), some (.ref (x)), some (.int (0)), some (.int (0))] d_to_kept_30 (Nat.le_of_ble_eq_true rfl) rfl ?_
      refine to_kept_L hs hK hO hP hQ (by omega) hx hf (fun h2 hI => ?_) 8 0 (by omega) h1 ⟨f1.mono W31_S, hD1⟩
      refine Ex_iload_n d_to_kept_84 rfl ?_
      refine Ex_ireturn d_to_kept_85 rfl ?_
      refine ⟨?_, hI.1⟩
      unfold keptS
      rw [if_pos hpp, if_pos hc18, nIJ]
  · refine Ex_aload_n d_to_kept_0 rfl ?_
    refine Ex_iload_n d_to_kept_1 rfl ?_
    refine Ex_pV1 (v := .null) d_to_kept_2 pk_to_kept_139 (t_0 hs) (to_patternOf_n hs hP hQ hp hpp) ?_
    refine Ex_astore0_n [some (.ref 0), some (.int (J (p))), some (.null), none, none] d_to_kept_5 (Nat.le_of_ble_eq_true rfl) rfl ?_
    refine Ex_aload0_n d_to_kept_6 rfl ?_
    refine Ex_ifnonnull0 d_to_kept_7 ?_
    refine Ex_iconst d_to_kept_10 ic_m1 ?_
    refine Ex_ireturn d_to_kept_11 rfl ?_
    exact ⟨by unfold keptS; rw [if_neg hpp]; rfl, Fr.rf⟩
theorem to_congruent_L {S : mj_S} {h : mj_H} (hs : HT h) {K : SK} (hK : KC K h) (hO : KO K) {P : SP} {Y : OW} (hP : PC P Y h) (hQ : PO K.1 P) {p x y : Nat} (hp : p < pNp P) (hx : PaC1 P Y h p x y) (hf : fullP P p) {q x2 y2 : Nat} (hq : q < pNp P) (hx2 : PaC1 P Y h q x2 y2) (hg : fullP P q) {z1 z2 : Int32} : ∀ e m : Nat, m + e = 8 → ∀ h1 : mj_H, (Fr WSc h h1 ∧ BkC (whG P p) 31 32 h1) → Ex S to_congruent 50 [some (.ref 0), some (.int (z1)), some (.int (z2)), some (.ref (x)), some (.ref (x2)), some (.int (nI (m)))] [] h1 (PuF (.int (J ((first (cgF K P p q) e m).getD (-1)))) WSc h) := by
  have hok := hQ.2.2.2.1 p hp
  have hl60 : ln P p ≤ 60 := hok.1
  have hLO : LO K.1 (lp P p) := lv0_ok hQ hok
  have hB := hx.2.2
  have hS := Src_0 P (pPat P p)
  have hnp := hQ.2.2.1
  have hk40 := hO.1
  have hwe : gL (lp P p) 0 = wd P p := rfl
  have hle : (pPat P p).length = ln P p := rfl
  have hw60 : wd P p ≤ 60 := (hLO.2 0 hf.1).1.1
  have hcap : ln P p * wd P p ≤ 3600 := mul_le hl60 hw60
  intro e
  induction e with
  | zero =>
    intro m hme h1 hI
    obtain rfl : 8 = m := by omega
    refine Ex_iload d_to_congruent_50 rfl ?_
    refine Ex_bipush d_to_congruent_52 bp_8 ?_
    refine Ex_icmp_geN (8) (8) 95 d_to_congruent_54 rfl rfl rfl (by omega) (by omega) (fun hc54 => ?_) (fun hc54 => ?_)
    · refine Ex_iconst d_to_congruent_95 ic_m1 ?_
      refine Ex_ireturn d_to_congruent_96 rfl ?_
      exact ⟨rfl, hI.1⟩
    · exfalso; omega
  | succ e ih =>
    intro m hme h1 hI
    have f1 := hI.1
    have hs1 : HT h1 := f1.ht hs WSc_st
    have hP1 := PC_S hs f1 hP
    have hK1 := KC_S hs f1 hK
    have hx1 := PaC1_S hs f1 hx2
    refine Ex_iload d_to_congruent_50 rfl ?_
    refine Ex_bipush d_to_congruent_52 bp_8 ?_
    refine Ex_icmp_geN (m) (8) 95 d_to_congruent_54 rfl rfl rfl (by omega) (by omega) (fun hc54 => ?_) (fun hc54 => ?_)
    · exfalso; omega
    · refine Ex_aload_n d_to_congruent_57 rfl ?_
      refine Ex_getR (v := .ref 33) d_to_congruent_58 pf_to_71 rfl (t_0 hs1) (r_0_7 hs1) ?_
      refine Ex_aload_n d_to_congruent_61 rfl ?_
      refine Ex_getR (v := .ref 31) d_to_congruent_62 pf_to_68 rfl (t_0 hs1) (r_0_6 hs1) ?_
      refine Ex_iload d_to_congruent_65 rfl ?_
      refine Ex_aload_n d_to_congruent_67 rfl ?_
      refine Ex_getR (v := .ref 1) d_to_congruent_68 pf_to_20 rfl (t_0 hs1) (r_0_0 hs1) ?_
      refine Ex_cV3 d_to_congruent_71 pk_to_congruent_239 (t_33 hs1) (bl_takeMoved_s hs1 bk33 bk31 (by decide) hK1 hO hI.2 hcap hcap (fun k hk => by rw [wh_at hQ hp hf hk]; obtain ⟨g1, g2, -⟩ := dm_lt hk; exact (hLO.2 _ g1).2 _ (by rw [(hf.2.2 _ g1).2]; exact g2)) hl60 hw60 (m := m) (by omega)) ?_
      rintro rv h2 ⟨rfl, hD2, f2⟩
      have f2s : Fr WSc h1 h2 := f2.mono W33_S
      have hs2 : HT h2 := f2s.ht hs1 WSc_st
      have hP2 := PC_S hs1 f2s hP1
      have hI2 : BkC (whG P p) 31 32 h2 := BkC_fr hs1 bk31 f2 (by intro x k; unfold Wbk; omega) hI.2
      show Ex S to_congruent 74 [some (.ref 0), some (.int (z1)), some (.int (z2)), some (.ref (x)), some (.ref (x2)), some (.int (nI (m)))] [] h2 _
      refine Ex_aload d_to_congruent_74 rfl ?_
      refine Ex_aload_n d_to_congruent_76 rfl ?_
      refine Ex_getR (v := .ref 33) d_to_congruent_77 pf_to_71 rfl (t_0 hs2) (r_0_7 hs2) ?_
      refine Ex_pV1 (v := .int (bI (tfB (mvP K P p m q)))) d_to_congruent_80 pk_to_congruent_332 (PaC1_S hs1 f2s hx1).2.2.1.1 (pa_isBlock_s hs2 hO hP2.1 hQ hp hq hf hg (PaC1_S hs1 f2s hx1).2.2 hD2) ?_
      refine Ex_if_eqB (tfB (mvP K P p m q)) 89 d_to_congruent_83 rfl rfl (fun hc83 => ?_) (fun hc83 => ?_)
      · refine Ex_iincN (m) 1 [some (.ref 0), some (.int (z1)), some (.int (z2)), some (.ref (x)), some (.ref (x2)), some (.int (nI (m + 1)))] d_to_congruent_89 rfl rfl rfl rfl ?_
        refine Ex_goto 50 d_to_congruent_92 rfl ?_
        rw [first_n (f := cgF K P p q) (by unfold cgF; rw [if_neg (by rw [hc83]; decide)]) e]
        exact ih (m + 1) (by omega) h2 ⟨f1.tr f2s, hI2⟩
      · refine Ex_iload d_to_congruent_86 rfl ?_
        refine Ex_ireturn d_to_congruent_88 rfl ?_
        refine ⟨?_, f1.tr f2s⟩
        rw [first_s (f := cgF K P p q) (v := (m : Int)) (by unfold cgF; rw [if_pos hc83]) e, nIJ]
        rfl
theorem to_congruent_s {S : mj_S} {h : mj_H} (hs : HT h) {K : SK} (hK : KC K h) (hO : KO K) {P : SP} {Y : OW} (hP : PC P Y h) (hQ : PO K.1 P) {p q : Int} (hp : -2147483648 ≤ p ∧ p < 2147483648) (hq : -2147483648 ≤ q ∧ q < 2147483648) : Cl S to_congruent [.ref 0, .int (J p), .int (J q)] h (PuF (.int (J (congS K P p q))) WSc h) := by
  show Ex S to_congruent 0 [some (.ref 0), some (.int (J (p))), some (.int (J (q))), none, none, none] [] h _
  by_cases hpp : 0 ≤ p ∧ p < pNp P
  · by_cases hppq : 0 ≤ q ∧ q < pNp P
    · obtain ⟨x, y, hx⟩ := hP.2.1.2 p.toNat (by omega)
      have hB := hx.2.2
      have hok := hQ.2.2.2.1 p.toNat (by omega)
      have hlen := hok.1
      have hx74 := hx.1.1
      have hy74 := hx.1.2.1
      obtain ⟨xq, yq, hxq⟩ := hP.2.1.2 q.toNat (by omega)
      have hBq := hxq.2.2
      have hokq := hQ.2.2.2.1 q.toNat (by omega)
      have hlenq := hokq.1
      have hx74q := hxq.1.1
      have hy74q := hxq.1.2.1
      refine Ex_aload_n d_to_congruent_0 rfl ?_
      refine Ex_iload_n d_to_congruent_1 rfl ?_
      refine Ex_pV1 (v := .ref (x)) d_to_congruent_2 pk_to_congruent_139 (t_0 hs) (to_patternOf_z hs hP hQ hpp hx) ?_
      refine Ex_astore_n [some (.ref 0), some (.int (J (p))), some (.int (J (q))), some (.ref (x)), none, none] d_to_congruent_5 (Nat.le_of_ble_eq_true rfl) rfl ?_
      refine Ex_aload_n d_to_congruent_6 rfl ?_
      refine Ex_iload_n d_to_congruent_7 rfl ?_
      refine Ex_pV1 (v := .ref (xq)) d_to_congruent_8 pk_to_congruent_139 (t_0 hs) (to_patternOf_z hs hP hQ hppq hxq) ?_
      refine Ex_astore [some (.ref 0), some (.int (J (p))), some (.int (J (q))), some (.ref (x)), some (.ref (xq)), none] d_to_congruent_11 (Nat.le_of_ble_eq_true rfl) rfl ?_
      refine Ex_aload_n d_to_congruent_13 rfl ?_
      refine Ex_ifnull d_to_congruent_14 ?_
      refine Ex_aload d_to_congruent_17 rfl ?_
      refine Ex_ifnull d_to_congruent_19 ?_
      refine Ex_aload_n d_to_congruent_22 rfl ?_
      refine Ex_pV0 (v := .int (bI (tfB (fullP P p.toNat)))) d_to_congruent_23 pk_to_congruent_327 hB.1.1 (pa_isFull_s hs hK hO hP hQ (by omega) hx) ?_
      refine Ex_if_eqB (tfB (fullP P p.toNat)) 37 d_to_congruent_26 rfl rfl (fun hc26 => ?_) (fun hc26 => ?_)
      · refine Ex_iconst d_to_congruent_37 ic_m1 ?_
        refine Ex_ireturn d_to_congruent_38 rfl ?_
        exact ⟨by unfold congS; rw [if_neg (by rintro ⟨z1, z2, z3, z4, z5, z6⟩; first | omega | exact absurd (z5.symm.trans hc26) (by decide) | exact absurd (z6.symm.trans hc34) (by decide))]; rfl, Fr.rf⟩
      · refine Ex_aload d_to_congruent_29 rfl ?_
        refine Ex_pV0 (v := .int (bI (tfB (fullP P q.toNat)))) d_to_congruent_31 pk_to_congruent_327 hBq.1.1 (pa_isFull_s hs hK hO hP hQ (by omega) hxq) ?_
        refine Ex_if_neB (tfB (fullP P q.toNat)) 39 d_to_congruent_34 rfl rfl (fun hc34 => ?_) (fun hc34 => ?_)
        · have hf := tfB_iff.mp hc26
          have hg := tfB_iff.mp hc34
          have hLO : LO K.1 (lp P p.toNat) := lv0_ok hQ hok
          have hw60 : wd P p.toNat ≤ 60 := (hLO.2 0 hf.1).1.1
          have hcap : ln P p.toNat * wd P p.toNat ≤ 3600 := mul_le hlen hw60
          refine Ex_aload_n d_to_congruent_39 rfl ?_
          refine Ex_getR (v := .ref 31) d_to_congruent_40 pf_to_68 rfl (t_0 hs) (r_0_6 hs) ?_
          refine Ex_aload_n d_to_congruent_43 rfl ?_
          refine Ex_cV1 d_to_congruent_44 pk_to_congruent_328 (t_31 hs) (bl_takeWhole_s hs hK hO hP hQ (by omega) hx hf bk31 hcap) ?_
          rintro rv h1 ⟨rfl, hD1, f1⟩
          show Ex S to_congruent 47 [some (.ref 0), some (.int (J (p))), some (.int (J (q))), some (.ref (x)), some (.ref (xq)), none] [] h1 _
          refine Ex_iconst d_to_congruent_47 ic_0 ?_
          refine Ex_istore [some (.ref 0), some (.int (J (p))), some (.int (J (q))), some (.ref (x)), some (.ref (xq)), some (.int (0))] d_to_congruent_48 (Nat.le_of_ble_eq_true rfl) rfl ?_
          have z := to_congruent_L (S := S) (z1 := J p) (z2 := J q) hs hK hO hP hQ (by omega) hx hf (by omega) hxq hg 8 0 (by omega) h1 ⟨f1.mono W31_S, hD1⟩
          rw [show congS K P p q = (first (cgF K P p.toNat q.toNat) 8 0).getD (-1) by unfold congS; rw [if_pos ⟨by omega, by omega, by omega, by omega, hc26, hc34⟩]]
          exact z
        · refine Ex_iconst d_to_congruent_37 ic_m1 ?_
          refine Ex_ireturn d_to_congruent_38 rfl ?_
          exact ⟨by unfold congS; rw [if_neg (by rintro ⟨z1, z2, z3, z4, z5, z6⟩; first | omega | exact absurd (z5.symm.trans hc26) (by decide) | exact absurd (z6.symm.trans hc34) (by decide))]; rfl, Fr.rf⟩
    · obtain ⟨x, y, hx⟩ := hP.2.1.2 p.toNat (by omega)
      have hB := hx.2.2
      have hok := hQ.2.2.2.1 p.toNat (by omega)
      have hlen := hok.1
      have hx74 := hx.1.1
      have hy74 := hx.1.2.1
      refine Ex_aload_n d_to_congruent_0 rfl ?_
      refine Ex_iload_n d_to_congruent_1 rfl ?_
      refine Ex_pV1 (v := .ref (x)) d_to_congruent_2 pk_to_congruent_139 (t_0 hs) (to_patternOf_z hs hP hQ hpp hx) ?_
      refine Ex_astore_n [some (.ref 0), some (.int (J (p))), some (.int (J (q))), some (.ref (x)), none, none] d_to_congruent_5 (Nat.le_of_ble_eq_true rfl) rfl ?_
      refine Ex_aload_n d_to_congruent_6 rfl ?_
      refine Ex_iload_n d_to_congruent_7 rfl ?_
      refine Ex_pV1 (v := .null) d_to_congruent_8 pk_to_congruent_139 (t_0 hs) (to_patternOf_n hs hP hQ hq hppq) ?_
      refine Ex_astore0 [some (.ref 0), some (.int (J (p))), some (.int (J (q))), some (.ref (x)), some (.null), none] d_to_congruent_11 (Nat.le_of_ble_eq_true rfl) rfl ?_
      refine Ex_aload_n d_to_congruent_13 rfl ?_
      refine Ex_ifnull d_to_congruent_14 ?_
      refine Ex_aload0 d_to_congruent_17 rfl ?_
      refine Ex_ifnull0 37 d_to_congruent_19 rfl ?_
      refine Ex_iconst d_to_congruent_37 ic_m1 ?_
      refine Ex_ireturn d_to_congruent_38 rfl ?_
      exact ⟨by unfold congS; rw [if_neg (by rintro ⟨z1, z2, z3, z4, z5, z6⟩; first | omega | exact absurd (z5.symm.trans hc26) (by decide) | exact absurd (z6.symm.trans hc34) (by decide))]; rfl, Fr.rf⟩
  · by_cases hppq : 0 ≤ q ∧ q < pNp P
    · obtain ⟨xq, yq, hxq⟩ := hP.2.1.2 q.toNat (by omega)
      have hBq := hxq.2.2
      have hokq := hQ.2.2.2.1 q.toNat (by omega)
      have hlenq := hokq.1
      have hx74q := hxq.1.1
      have hy74q := hxq.1.2.1
      refine Ex_aload_n d_to_congruent_0 rfl ?_
      refine Ex_iload_n d_to_congruent_1 rfl ?_
      refine Ex_pV1 (v := .null) d_to_congruent_2 pk_to_congruent_139 (t_0 hs) (to_patternOf_n hs hP hQ hp hpp) ?_
      refine Ex_astore0_n [some (.ref 0), some (.int (J (p))), some (.int (J (q))), some (.null), none, none] d_to_congruent_5 (Nat.le_of_ble_eq_true rfl) rfl ?_
      refine Ex_aload_n d_to_congruent_6 rfl ?_
      refine Ex_iload_n d_to_congruent_7 rfl ?_
      refine Ex_pV1 (v := .ref (xq)) d_to_congruent_8 pk_to_congruent_139 (t_0 hs) (to_patternOf_z hs hP hQ hppq hxq) ?_
      refine Ex_astore [some (.ref 0), some (.int (J (p))), some (.int (J (q))), some (.null), some (.ref (xq)), none] d_to_congruent_11 (Nat.le_of_ble_eq_true rfl) rfl ?_
      refine Ex_aload0_n d_to_congruent_13 rfl ?_
      refine Ex_ifnull0 37 d_to_congruent_14 rfl ?_
      refine Ex_iconst d_to_congruent_37 ic_m1 ?_
      refine Ex_ireturn d_to_congruent_38 rfl ?_
      exact ⟨by unfold congS; rw [if_neg (by rintro ⟨z1, z2, z3, z4, z5, z6⟩; first | omega | exact absurd (z5.symm.trans hc26) (by decide) | exact absurd (z6.symm.trans hc34) (by decide))]; rfl, Fr.rf⟩
    · refine Ex_aload_n d_to_congruent_0 rfl ?_
      refine Ex_iload_n d_to_congruent_1 rfl ?_
      refine Ex_pV1 (v := .null) d_to_congruent_2 pk_to_congruent_139 (t_0 hs) (to_patternOf_n hs hP hQ hp hpp) ?_
      refine Ex_astore0_n [some (.ref 0), some (.int (J (p))), some (.int (J (q))), some (.null), none, none] d_to_congruent_5 (Nat.le_of_ble_eq_true rfl) rfl ?_
      refine Ex_aload_n d_to_congruent_6 rfl ?_
      refine Ex_iload_n d_to_congruent_7 rfl ?_
      refine Ex_pV1 (v := .null) d_to_congruent_8 pk_to_congruent_139 (t_0 hs) (to_patternOf_n hs hP hQ hq hppq) ?_
      refine Ex_astore0 [some (.ref 0), some (.int (J (p))), some (.int (J (q))), some (.null), some (.null), none] d_to_congruent_11 (Nat.le_of_ble_eq_true rfl) rfl ?_
      refine Ex_aload0_n d_to_congruent_13 rfl ?_
      refine Ex_ifnull0 37 d_to_congruent_14 rfl ?_
      refine Ex_iconst d_to_congruent_37 ic_m1 ?_
      refine Ex_ireturn d_to_congruent_38 rfl ?_
      exact ⟨by unfold congS; rw [if_neg (by rintro ⟨z1, z2, z3, z4, z5, z6⟩; first | omega | exact absurd (z5.symm.trans hc26) (by decide) | exact absurd (z6.symm.trans hc34) (by decide))]; rfl, Fr.rf⟩
