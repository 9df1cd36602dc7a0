/-! The class: THE SEARCH. -/
def sX (F : SF) (f e0 : Nat) (Y : OW) (A B C D : Nat) (q : ZS × Bool) (h h' : mj_H) : Prop := Fr (WSr C) h h' ∧ (mI h' 18 10 = nI (zf q.1) ∧ mI h' 18 11 = nI (zb q.1) ∧ mI h' 18 9 = nI (ze q.1) ∧ mI h' 18 12 = bI (!q.2)) ∧ FlC1 (setF F f (zG q.1) e0) Y h' f A B C D
theorem ZC_sX {K : SK} {F : SF} {f n s : Nat} {cd : Nat → Nat} {e0 : Nat} {y : Bool} {a : Nat} {Y : OW} {A B C D : Nat} {Z : ZS} {h h1 : mj_H} (fr : Fr (WSr C) h h1) (z : ZC K F f n s cd e0 y a Y A B C D Z h1) : sX F f e0 Y A B C D (Z, false) h h1 := ⟨fr, ⟨z.2.2.1.2.2.1, z.2.2.1.2.2.2.1, z.2.2.1.2.1.2, z.2.2.1.2.2.2.2⟩, z.2.2.2.1⟩
theorem ZC_sO {K : SK} {F : SF} {f n s : Nat} {cd : Nat → Nat} {e0 : Nat} {y : Bool} {a : Nat} {Y : OW} {A B C D : Nat} {Z : ZS} {h h1 : mj_H} (hs1 : HT h1) (fr : Fr (WSr C) h h1) (z : ZC K F f n s cd e0 y a Y A B C D Z h1) : sX F f e0 Y A B C D (Z, true) h (wI h1 18 12 0) := by
  have f1 : Fr (fun a k => a = 18 ∧ k = 12) h1 (wI h1 18 12 0) := Fr.rf.sI ⟨rfl, rfl⟩
  have hn := HT_n hs1
  refine ⟨fr.tr (f1.mono (by intro a k; unfold WSr; omega)), ⟨?_, ?_, ?_, mI_self _ _ _ _⟩, FlC1_lo hs1 f1 (by omega) z.2.2.2.1⟩
  · rw [f1.I (by omega) (by omega)]; exact z.2.2.1.2.2.1
  · rw [f1.I (by omega) (by omega)]; exact z.2.2.1.2.2.2.1
  · rw [f1.I (by omega) (by omega)]; exact z.2.2.1.2.1.2
theorem se_explore_T {S : mj_S} {h : mj_H} (hs : HT h) {K : SK} (hK : KC K h) (hO : KO K) {F : SF} (hFO : FO K.1 F) {f : Nat} (hf : f < F.1) {n : Nat} {o : Nat → Nat} (hE : EnO (opF F f) 64 n o) {s : Nat} {cd : Nat → Nat} {e0 w : Nat} (hw : w < 2147483648) {y : Bool} {a : Nat} (ha : a ≤ 1000) {Y : OW} {A B C D : Nat} (hC74 : 74 ≤ C) : ∀ (N : Nat) (Z : ZS) (h1 : mj_H) (t : Nat), zO K F f n Z → zW Z < N → zf Z < w → ZC K F f n s cd e0 y a Y A B C D Z h1 → mI h1 18 4 = nI (zd Z) → Fr (WSr C) h h1 → t + N ≤ 1000000 → Ex S se_explore 34 [some (.ref 18), some (.ref (A)), some (.int (nI (w))), some (.int (nI (t))), none] [] h1 (fun r h' => r = none ∧ sX F f e0 Y A B C D (rnS K F f n w y a N Z) h h') := by
  intro N
  induction N with
  | zero => intro Z h1 t hI hN; exact absurd hN (Nat.not_lt_zero _)
  | succ N ih =>
    intro Z h1 t hI hN hfw hZ hd fr ht
    have hn := HT_n hs
    have hs1 := fr.ht hs (WSr_st hC74)
    have hn1 := HT_n hs1
    have hK1 := KC_Sr hC74 hs fr hK
    have hn64 := EnO_le hE
    have hdn := hI.2.1
    have hbb := hI.1.2.1
    have hze := hZ.2.2.2.2
    have hml : mlS e0 = min 30000 (600000 - e0) := rfl
    have hA := hZ.2.2.2.1.2.1.2.1
    have hzw : zW Z = 2 * (30000 - zs Z) + zd Z := rfl
    have hs320 := EnO_le hZ.1.1.1.1.1
    have hk40 := hO.1
    refine Ex_iload_n d_se_explore_34 rfl ?_
    refine Ex_ldc pi_se_106 d_se_explore_35 ?_
    refine Ex_icmp_geN (t) (1000000) 168 d_se_explore_37 rfl rfl rfl (by omega) (by omega) (fun hc37 => ?_) (fun hc37 => ?_)
    · exfalso; omega
    · refine Ex_aload_n d_se_explore_40 rfl ?_
      refine Ex_cV0 d_se_explore_41 pk_se_explore_107 (t_18 hs1) (se_nextTry_s hs1 hK1 hO hFO hf hZ hd hI hn64 ha) ?_
      rintro rv hh ⟨rfl, oc, rfl, hnx, hcs⟩
      show Ex S se_explore 44 [some (.ref 18), some (.ref (A)), some (.int (nI (w))), some (.int (nI (t))), none] [.int (J (vN oc))] hh _
      refine Ex_istore [some (.ref 18), some (.ref (A)), some (.int (nI (w))), some (.int (nI (t))), some (.int (J (vN oc)))] d_se_explore_44 (Nat.le_of_ble_eq_true rfl) rfl ?_
      rcases oc with _ | c
      · show Ex S se_explore 46 [some (.ref 18), some (.ref (A)), some (.int (nI (w))), some (.int (nI (t))), some (.int (-1))] [] hh _
        refine Ex_iload d_se_explore_46 rfl ?_
        refine Ex_iconst d_se_explore_48 ic_m1 ?_
        refine Ex_icmp_neZ ((-1)) ((-1)) 73 d_se_explore_49 rfl (by decide) (by decide) (by omega) (by omega) (fun hc49 => ?_) (fun hc49 => ?_)
        · exact absurd hc49 (by decide)
        · refine Ex_aload_n d_se_explore_52 rfl ?_
          refine Ex_getIE (y := (nI (zd Z))) d_se_explore_53 pf_se_37 rfl (t_18 hs1) hd ?_
          refine Ex_if_neN (zd Z) 60 d_se_explore_56 rfl rfl (by omega) (fun hc56 => ?_) (fun hc56 => ?_)
          · have hIe : zI K F f n (zd Z - 1 + 1) Z := by rw [Nat.sub_add_cancel (by omega)]; exact hI.1
            refine Ex_aload_n d_se_explore_60 rfl ?_
            refine Ex_aload_n d_se_explore_61 rfl ?_
            refine Ex_getIE (y := (nI (zd Z))) d_se_explore_62 pf_se_37 rfl (t_18 hs1) hd ?_
            refine Ex_iconst d_se_explore_65 ic_1 ?_
            refine Ex_isubN (zd Z) (1) d_se_explore_66 rfl rfl (by omega) ?_
            refine Ex_cV1 d_se_explore_67 pk_se_explore_111 (t_18 hs1) (se_openAgain_s hs1 hK1 hO hFO hf hZ (e := zd Z - 1) (by omega) hIe hn64) ?_
            rintro rv h2 ⟨rfl, v1, v2, v3⟩
            show Ex S se_explore 70 [some (.ref 18), some (.ref (A)), some (.int (nI (w))), some (.int (nI (t))), some (.int (-1))] [] h2 _
            refine Ex_goto 162 d_se_explore_70 rfl ?_
            refine Ex_iincN (t) 1 [some (.ref 18), some (.ref (A)), some (.int (nI (w))), some (.int (nI (t + 1))), some (.int (-1))] d_se_explore_162 rfl rfl rfl rfl ?_
            refine Ex_goto 34 d_se_explore_165 rfl ?_
            refine Ex_forget (ls' := [some (.ref 18), some (.ref (A)), some (.int (nI (w))), some (.int (nI (t + 1))), none]) (sub_s (sub_s (sub_s (sub_s (sub_n sub_0))))) ?_
            rw [rn_n (tn_b hnx hc56)]
            exact ih (liZ K Z (zd Z - 1)) h2 (t + 1) (zO_li hIe).1 (by have : zW (liZ K Z (zd Z - 1)) = 2 * (30000 - zs Z) + (zd Z - 1) := rfl; omega) hfw v1 v2 (fr.tr v3) (by omega)
          · refine Ex_return d_se_explore_59 rfl ?_
            rw [rn_s (tn_0 hnx hc56)]
            exact ⟨rfl, ZC_sX fr hZ⟩
      · have hc := hcs c rfl
        have hnx : nxS K F f n y a Z = some (cd c) := hnx
        obtain ⟨hx1, hx2⟩ := nx_b hnx hI.2.2.2.2
        show Ex S se_explore 46 [some (.ref 18), some (.ref (A)), some (.int (nI (w))), some (.int (nI (t))), some (.int (J ((c : Int))))] [] hh _
        rw [← nIJ]
        refine Ex_iload d_se_explore_46 rfl ?_
        refine Ex_iconst d_se_explore_48 ic_m1 ?_
        refine Ex_icmp_neZ (((c : Nat) : Int)) ((-1)) 73 d_se_explore_49 rfl (nIJ _) (by decide) (by omega) (by omega) (fun hc49 => ?_) (fun hc49 => ?_)
        · refine Ex_aload_n d_se_explore_73 rfl ?_
          refine Ex_getIE (y := (nI (mlS e0 - zs Z))) d_se_explore_74 pf_se_51 rfl (t_18 hs1) hZ.2.2.1.1.1 ?_
          refine Ex_iconst d_se_explore_77 ic_1 ?_
          refine Ex_icmp_geN (mlS e0 - zs Z) (1) 87 d_se_explore_78 rfl rfl rfl (by omega) (by omega) (fun hc78 => ?_) (fun hc78 => ?_)
          · have hns : ¬ (zs Z = 30000 ∨ ze Z = 600000) := by omega
            have hI2 := zI_la hI hx1 hx2 hns
            have frN : Fr (fun a k => a = 18 ∨ a = 20) hh (hNT K Z e0 c (cd c) hh) := (((Fr.rf.sI (W := fun a k => a = 18 ∨ a = 20) (Or.inl rfl)).sI (Or.inl rfl)).sI (Or.inr rfl)).sI (Or.inl rfl)
            have hKN : KC K (hNT K Z e0 c (cd c) hh) := KC_fr hs1 frN (by intro a k; unfold WKC; omega) hK1
            have hBN : BS K F f s cd (zL Z) (zl Z) (hNT K Z e0 c (cd c) hh) := BS_fr hs1 frN (by omega) hZ.1
            refine Ex_aload_n d_se_explore_87 rfl ?_
            refine Ex_iload d_se_explore_88 rfl ?_
            refine Ex_cV1 d_se_explore_90 pk_se_explore_114 (t_18 hs1) (se_noteTry_s hs1 hK1 hO hFO hf hZ hd hI hn64 hc78 hc) ?_
            rintro rv hg ⟨rfl, rfl⟩
            have hsN : HT (hNT K Z e0 c (cd c) hh) := hs1
            show Ex S se_explore 93 [some (.ref 18), some (.ref (A)), some (.int (nI (w))), some (.int (nI (t))), some (.int (nI (c)))] [] (hNT K Z e0 c (cd c) hh) _
            refine Ex_aload_n d_se_explore_93 rfl ?_
            refine Ex_getR (v := .ref 7) d_se_explore_94 pf_se_20 rfl (t_18 hsN) (r_18_0 hsN) ?_
            refine Ex_aload_n d_se_explore_97 rfl ?_
            refine Ex_getR (v := .ref 19) d_se_explore_98 pf_se_11 rfl (t_18 hsN) (r_18_2 hsN) ?_
            refine Ex_aload_n d_se_explore_101 rfl ?_
            refine Ex_getIE (y := (nI (zd Z))) d_se_explore_102 pf_se_37 rfl (t_18 hsN) (by unfold hNT; rw [mI_oth (Or.inr (by decide)), mI_oth (Or.inl (by decide)), mI_oth (Or.inr (by decide)), mI_oth (Or.inr (by decide))]; exact hd) ?_
            refine Ex_ialoadN (a := zd Z) (y := (nI (zp Z (zd Z)))) d_se_explore_105 (t_19 hsN) rfl (by omega) (by decide) (by unfold hNT; rw [mI_oth (Or.inl (by decide)), mI_oth (Or.inl (by decide)), mI_oth (Or.inl (by decide)), mI_oth (Or.inl (by decide))]; exact (hZ.2.1.2 _ (Nat.le_refl _)).1) ?_
            refine Ex_iload d_se_explore_106 rfl ?_
            refine Ex_cV2 d_se_explore_108 pk_se_explore_117 (t_7 hsN) (bo_lay_s (show HT (hNT K Z e0 c (cd c) hh) from hs1) hKN hO hFO hf (LyI_ok hI.1.1) (LyI_fS hI.1.1) hBN (k := zp Z (zd Z)) hI.2.2.1.1 hI.2.2.1.2 hc hI.2.2.2.1 hx2) ?_
            rintro rv h4 ⟨rfl, c1, c2⟩
            obtain ⟨hZ4, fr14⟩ := ZC_la hs1 hZ hc c1 c2
            have fr4 : Fr (WSr C) h h4 := fr.tr fr14
            have hs4 : HT h4 := fr4.ht hs (WSr_st hC74)
            have hn44 := HT_n hs4
            have hK4 := KC_Sr hC74 hs fr4 hK
            have hd4 : mI h4 18 4 = nI (zd Z) := by rw [c2.I (by show 18 < mN hh; omega) (by unfold Wlc; omega)]; unfold hNT; rw [mI_oth (Or.inr (by decide)), mI_oth (Or.inl (by decide)), mI_oth (Or.inr (by decide)), mI_oth (Or.inr (by decide))]; exact hd
            have hff2 := hI2.2.1
            have hzf2 : zf (laZ K Z (cd c)) = zf Z := rfl
            have hzs2 : zs (laZ K Z (cd c)) = zs Z + 1 := rfl
            have hA4 := hZ4.2.2.2.1.2.1.2.1
            show Ex S se_explore 111 [some (.ref 18), some (.ref (A)), some (.int (nI (w))), some (.int (nI (t))), some (.int (nI (c)))] [] h4 _
            rcases np_or hI2 hE with ⟨hm, b, hb1, hb2, hb3⟩ | ⟨hm, hb1⟩
            · refine Ex_aload_n d_se_explore_111 rfl ?_
              refine Ex_getIE (y := (nI (zd Z))) d_se_explore_112 pf_se_37 rfl (t_18 hs4) hd4 ?_
              refine Ex_iconst d_se_explore_115 ic_1 ?_
              refine Ex_iaddN (zd Z) (1) d_se_explore_116 rfl rfl ?_
              refine Ex_aload_n d_se_explore_117 rfl ?_
              refine Ex_getR (v := .ref 7) d_se_explore_118 pf_se_20 rfl (t_18 hs4) (r_18_0 hs4) ?_
              refine Ex_getIE (y := (nI (n))) d_se_explore_121 pf_se_96 rfl (t_7 hs4) hZ4.2.1.1 ?_
              refine Ex_icmp_geN ((zd Z) + 1) (n) 140 d_se_explore_124 rfl rfl rfl (by omega) (by omega) (fun hc124 => ?_) (fun hc124 => ?_)
              · exfalso; omega
              · refine Ex_aload_n d_se_explore_127 rfl ?_
                refine Ex_aload_n d_se_explore_128 rfl ?_
                refine Ex_getIE (y := (nI (zd Z))) d_se_explore_129 pf_se_37 rfl (t_18 hs4) hd4 ?_
                refine Ex_iconst d_se_explore_132 ic_1 ?_
                refine Ex_iaddN (zd Z) (1) d_se_explore_133 rfl rfl ?_
                refine Ex_cV1 d_se_explore_134 pk_se_explore_102 (t_18 hs4) (se_openDepth_s hs4 hO (LyI_ok hI2.1) (LyI_fS hI2.1) hZ4.1 (v := zd Z + 1) (by omega) hb1) ?_
                rintro rv hg ⟨rfl, rfl⟩
                obtain ⟨hZ7, fr47⟩ := ZC_pu hs4 hZ4 b (nI (zd Z + 1))
                have hI7 := zO_pu (Z := laZ K Z (cd c)) hI2 hm hb2 hb3
                show Ex S se_explore 137 [some (.ref 18), some (.ref (A)), some (.int (nI (w))), some (.int (nI (t))), some (.int (nI (c)))] [] (wI (wI (wI h4 18 4 (nI (zd Z + 1))) 19 (zd Z + 1) (nI b)) 20 (zd Z + 1) (-1)) _
                refine Ex_goto 162 d_se_explore_137 rfl ?_
                refine Ex_iincN (t) 1 [some (.ref 18), some (.ref (A)), some (.int (nI (w))), some (.int (nI (t + 1))), some (.int (nI (c)))] d_se_explore_162 rfl rfl rfl rfl ?_
                refine Ex_goto 34 d_se_explore_165 rfl ?_
                refine Ex_forget (ls' := [some (.ref 18), some (.ref (A)), some (.int (nI (w))), some (.int (nI (t + 1))), none]) (sub_s (sub_s (sub_s (sub_s (sub_n sub_0))))) ?_
                rw [rn_n (tn_p hnx hns hb1)]
                exact ih (puZ (laZ K Z (cd c)) b) _ (t + 1) hI7 (by have : zW (puZ (laZ K Z (cd c)) b) = 2 * (30000 - (zs Z + 1)) + (zd Z + 1) := rfl; omega) hfw hZ7 (by rw [mI_oth (Or.inl (by decide)), mI_oth (Or.inl (by decide)), mI_self]; rfl) (fr4.tr fr47) (by omega)
            · refine Ex_aload_n d_se_explore_111 rfl ?_
              refine Ex_getIE (y := (nI (zd Z))) d_se_explore_112 pf_se_37 rfl (t_18 hs4) hd4 ?_
              refine Ex_iconst d_se_explore_115 ic_1 ?_
              refine Ex_iaddN (zd Z) (1) d_se_explore_116 rfl rfl ?_
              refine Ex_aload_n d_se_explore_117 rfl ?_
              refine Ex_getR (v := .ref 7) d_se_explore_118 pf_se_20 rfl (t_18 hs4) (r_18_0 hs4) ?_
              refine Ex_getIE (y := (nI (n))) d_se_explore_121 pf_se_96 rfl (t_7 hs4) hZ4.2.1.1 ?_
              refine Ex_icmp_geN ((zd Z) + 1) (n) 140 d_se_explore_124 rfl rfl rfl (by omega) (by omega) (fun hc124 => ?_) (fun hc124 => ?_)
              · refine Ex_aload_n d_se_explore_140 rfl ?_
                refine Ex_aload_n d_se_explore_141 rfl ?_
                refine Ex_cV1 d_se_explore_142 pk_se_explore_99 (t_18 hs4) (se_noteFill_s hs4 hK4 hO hFO hf hZ4 hI2) ?_
                rintro rv h8 ⟨rfl, hZ8, hd48, fr48⟩
                have fr8 : Fr (WSr C) h h8 := fr4.tr fr48
                have hs8 : HT h8 := fr8.ht hs (WSr_st hC74)
                have hK8 := KC_Sr hC74 hs fr8 hK
                have hd8 : mI h8 18 4 = nI (zd Z) := hd48.trans hd4
                have hI8 : zI K F f n (zd Z + 1) (fiZ F f (laZ K Z (cd c))) := zI_fi hO hI2 hn64 (by omega)
                show Ex S se_explore 145 [some (.ref 18), some (.ref (A)), some (.int (nI (w))), some (.int (nI (t))), some (.int (nI (c)))] [] h8 _
                refine Ex_aload_n d_se_explore_145 rfl ?_
                refine Ex_getIE (y := (nI (zf Z + 1))) d_se_explore_146 pf_se_68 rfl (t_18 hs8) hZ8.2.2.1.2.2.1 ?_
                refine Ex_iload_n d_se_explore_149 rfl ?_
                refine Ex_icmp_ltN (zf Z + 1) (w) 154 d_se_explore_150 rfl rfl rfl (by omega) (by omega) (fun hc150 => ?_) (fun hc150 => ?_)
                · refine Ex_aload_n d_se_explore_154 rfl ?_
                  refine Ex_aload_n d_se_explore_155 rfl ?_
                  refine Ex_getIE (y := (nI (zd Z))) d_se_explore_156 pf_se_37 rfl (t_18 hs8) hd8 ?_
                  refine Ex_cV1 d_se_explore_159 pk_se_explore_111 (t_18 hs8) (se_openAgain_s hs8 hK8 hO hFO hf hZ8 (e := zd Z) (Nat.le_refl _) hI8 hn64) ?_
                  rintro rv h9 ⟨rfl, v1, v2, v3⟩
                  show Ex S se_explore 162 [some (.ref 18), some (.ref (A)), some (.int (nI (w))), some (.int (nI (t))), some (.int (nI (c)))] [] h9 _
                  refine Ex_iincN (t) 1 [some (.ref 18), some (.ref (A)), some (.int (nI (w))), some (.int (nI (t + 1))), some (.int (nI (c)))] d_se_explore_162 rfl rfl rfl rfl ?_
                  refine Ex_goto 34 d_se_explore_165 rfl ?_
                  refine Ex_forget (ls' := [some (.ref 18), some (.ref (A)), some (.int (nI (w))), some (.int (nI (t + 1))), none]) (sub_s (sub_s (sub_s (sub_s (sub_n sub_0))))) ?_
                  rw [rn_n (tn_g hnx hns hb1 (by omega))]
                  exact ih (liZ K (fiZ F f (laZ K Z (cd c))) (zd Z)) h9 (t + 1) (zO_li hI8).1 (by have : zW (liZ K (fiZ F f (laZ K Z (cd c))) (zd Z)) = 2 * (30000 - (zs Z + 1)) + zd Z := rfl; omega) (show zf Z + 1 < w by omega) v1 v2 (fr8.tr v3) (by omega)
                · refine Ex_return d_se_explore_153 rfl ?_
                  rw [rn_s (tn_f hnx hns hb1 (by omega))]
                  exact ⟨rfl, ZC_sX fr8 hZ8⟩
              · exfalso; omega
          · refine Ex_aload_n d_se_explore_81 rfl ?_
            refine Ex_iconst d_se_explore_82 ic_0 ?_
            refine Ex_putI d_se_explore_83 pf_se_74 (Or.inl rfl) (t_18 hs1) (Or.inr ⟨rfl, (by decide)⟩) ?_
            refine Ex_return d_se_explore_86 rfl ?_
            rw [rn_s (tn_o hnx (by omega))]
            exact ⟨rfl, ZC_sO hs1 fr hZ⟩
        · exfalso; omega
