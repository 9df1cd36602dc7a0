/-! THE SEARCH of the reference: its turns. -/
def sE (f : Nat) (q : ZS × Bool) (h h' : mj_H) : Prop := Fr (WSM f) h h' ∧ (mI h' 38 51 = nI (zf q.1) ∧ mI h' 38 53 = J (bsZ q.1) ∧ mI h' 38 41 = nI (ze q.1) ∧ mI h' 38 54 = bI q.2) ∧ ∀ k, k < 64 → mI h' 67 (64 * f + k) = eP (zG q.1 k)
theorem ZM_sE {K : SK} {F : SF} {f n : Nat} {o : Nat → Nat} {Z : ZS} {h h1 : mj_H} (fr : Fr (WSM f) h h1) (z : ZM K F f n o Z h1) : sE f (Z, false) h h1 := ⟨fr, ⟨z.2.2.1.1.2, z.2.2.1.2.1.2, z.2.2.1.2.2.1, z.2.2.1.2.2.2⟩, z.2.2.2.1⟩
theorem ZM_sO {K : SK} {F : SF} {f n : Nat} {o : Nat → Nat} {Z : ZS} {h h1 : mj_H} (fr : Fr (WSM f) h h1) (z : ZM K F f n o Z h1) : sE f (Z, true) h (wI h1 38 54 1) := by
  refine ⟨fr.sI (by unfold WSM; omega), ⟨?_, ?_, ?_, mI_self _ _ _ _⟩, fun k hk => ?_⟩
  · rw [mI_oth (Or.inr (by decide))]; exact z.2.2.1.1.2
  · rw [mI_oth (Or.inr (by decide))]; exact z.2.2.1.2.1.2
  · rw [mI_oth (Or.inr (by decide))]; exact z.2.2.1.2.2.1
  · rw [mI_oth (Or.inl (by decide))]; exact z.2.2.2.1 k hk
theorem zI_b {K : SK} (hO : KO K) {F : SF} {f n m : Nat} {Z : ZS} (hn : n ≤ 64) (h : zI K F f n m Z) : zc Z ≤ 64000 := by
  have h1 := cS_le hO m (fun i hi => (h.1.2.1 i hi).2.1)
  have h2 := h.1.2.2.2.2.2
  have h3 := h.1.1
  omega
theorem rn_n {K : SK} {F : SF} {f n w : Nat} {y : Bool} {a N : Nat} {Z Z' : ZS} (h : tnS K F f n w y a Z = (Z', none)) : rnS K F f n w y a (N + 1) Z = rnS K F f n w y a N Z' := by
  show (match (tnS K F f n w y a Z).2 with
    | some b => ((tnS K F f n w y a Z).1, b)
    | none => rnS K F f n w y a N (tnS K F f n w y a Z).1) = _
  rw [h]
theorem rn_s {K : SK} {F : SF} {f n w : Nat} {y : Bool} {a N : Nat} {Z Z' : ZS} {b : Bool} (h : tnS K F f n w y a Z = (Z', some b)) : rnS K F f n w y a (N + 1) Z = (Z', b) := by
  show (match (tnS K F f n w y a Z).2 with
    | some b => ((tnS K F f n w y a Z).1, b)
    | none => rnS K F f n w y a N (tnS K F f n w y a Z).1) = _
  rw [h]
theorem tn_0 {K : SK} {F : SF} {f n w : Nat} {y : Bool} {a : Nat} {Z : ZS} (h : nxS K F f n y a Z = none) (hd : zd Z = 0) : tnS K F f n w y a Z = (Z, some false) := by
  unfold tnS
  rw [h]
  exact if_pos hd
theorem tn_b {K : SK} {F : SF} {f n w : Nat} {y : Bool} {a : Nat} {Z : ZS} (h : nxS K F f n y a Z = none) (hd : ¬ zd Z = 0) : tnS K F f n w y a Z = (liZ K Z (zd Z - 1), none) := by
  unfold tnS
  rw [h]
  exact if_neg hd
theorem tn_o {K : SK} {F : SF} {f n w : Nat} {y : Bool} {a : Nat} {Z : ZS} {x : Nat} (h : nxS K F f n y a Z = some x) (hd : zs Z = 30000 ∨ ze Z = 600000) : tnS K F f n w y a Z = (Z, some true) := by
  unfold tnS
  rw [h]
  exact if_pos hd
theorem tn_p {K : SK} {F : SF} {f n w : Nat} {y : Bool} {a : Nat} {Z : ZS} {x b : Nat} (h : nxS K F f n y a Z = some x) (hd : ¬ (zs Z = 30000 ∨ ze Z = 600000)) (hb : npS K F f (zL (laZ K Z x)) (zl (laZ K Z x)) = some b) : tnS K F f n w y a Z = (puZ (laZ K Z x) b, none) := by
  unfold tnS
  rw [h]
  dsimp only
  rw [if_neg hd, hb]
theorem tn_f {K : SK} {F : SF} {f n w : Nat} {y : Bool} {a : Nat} {Z : ZS} {x : Nat} (h : nxS K F f n y a Z = some x) (hd : ¬ (zs Z = 30000 ∨ ze Z = 600000)) (hb : npS K F f (zL (laZ K Z x)) (zl (laZ K Z x)) = none) (hw : w ≤ zf Z + 1) : tnS K F f n w y a Z = (fiZ F f (laZ K Z x), some false) := by
  unfold tnS
  rw [h]
  dsimp only
  rw [if_neg hd, hb]
  exact if_pos hw
theorem tn_g {K : SK} {F : SF} {f n w : Nat} {y : Bool} {a : Nat} {Z : ZS} {x : Nat} (h : nxS K F f n y a Z = some x) (hd : ¬ (zs Z = 30000 ∨ ze Z = 600000)) (hb : npS K F f (zL (laZ K Z x)) (zl (laZ K Z x)) = none) (hw : ¬ w ≤ zf Z + 1) : tnS K F f n w y a Z = (liZ K (fiZ F f (laZ K Z x)) (zd Z), none) := by
  unfold tnS
  rw [h]
  dsimp only
  rw [if_neg hd, hb]
  exact if_neg hw
theorem np_or {K : SK} {F : SF} {f n m : Nat} {Z : ZS} (h : zI K F f n m Z) {o : Nat → Nat} (hE : EnO (opF F f) 64 n o) : (m < n ∧ ∃ b, npS K F f (zL Z) (zl Z) = some b ∧ (b < 64 ∧ opF F f b) ∧ zL Z b = none) ∨ (m = n ∧ npS K F f (zL Z) (zl Z) = none) := by
  by_cases hm : m < n
  · obtain ⟨b, h1, h2, h3, h4⟩ := LyI_np0 h.1 hE hm
    exact Or.inl ⟨hm, b, h1, ⟨h2, h3⟩, h4⟩
  · have h1 := h.1.1
    have h2 : m = n := by omega
    subst h2
    exact Or.inr ⟨rfl, LyI_npn h.1 hE⟩
theorem rm_search_B {S : mj_S} {Q : Option Value → mj_H → Prop} {h : mj_H} (hs : HT h) {K : SK} (hK : KM K h) (hO : KO K) {F : SF} (hFO : FO K.1 F) {f : Nat} (hf : f < F.1) (hF : FT1 F f h) {n : Nat} {o : Nat → Nat} {w : Nat} (hw : w < 2147483648) {y : Bool} {a : Nat} (ha : a ≤ 1000) {Z : ZS} {h1 : mj_H} (fr : Fr (WSM f) h h1) (hZ : ZM K F f n o Z h1) {e : Nat} (hd : mI h1 38 49 = nI (e + 1)) (hI : zI K F f n (e + 1) Z) (he : e ≤ zd Z) (hfw : zf Z < w)
    (kx : ∀ h2 : mj_H, ZM K F f n o (liZ K Z e) h2 → mI h2 38 49 = nI (e + 1) → Fr (WSM f) h h2 → Ex S rm_search 182 [some (.ref 38), some (.int (nI (w))), some (.int (bI (y))), some (.int (nI (a))), some (.int (0)), some (.int (nI (e))), none] [] h2 Q) : Ex S rm_search 46 [some (.ref 38), some (.int (nI (w))), some (.int (bI (y))), some (.int (nI (a))), some (.int (0)), none, none] [] h1 Q := by
  have hn := HT_n hs
  have hk40 := hO.1
  have hf6 := hFO.1
  have hs1 : HT h1 := fr.ht hs (WSM_st f)
  have hK1 := KM_sr hs fr hK
  have hF1 := FT1_sr hs fr hF
  have hn64 := EnO_le hZ.1.2.1
  have hen := hI.1.1
  have hn1 := fr.le
  obtain ⟨k1, k2, k3, k4, k5⟩ := zO_li hI
  refine Ex_aload_n d_rm_search_46 rfl ?_
  refine Ex_getIE (y := (nI (zf Z))) d_rm_search_47 pf_rm_319 rfl (t_38 hs1) hZ.2.2.1.1.2 ?_
  refine Ex_iload_n d_rm_search_50 rfl ?_
  refine Ex_icmp_geN (zf Z) (w) 377 d_rm_search_51 rfl rfl rfl (by omega) (by omega) (fun hc51 => ?_) (fun hc51 => ?_)
  · exfalso; omega
  · refine Ex_aload_n d_rm_search_54 rfl ?_
    refine Ex_getIE (y := (0 : Int32)) d_rm_search_55 pf_rm_325 rfl (t_38 hs1) hZ.2.2.1.2.2.2 ?_
    refine Ex_if_neN (0) 377 d_rm_search_58 rfl rfl (by omega) (fun hc58 => ?_) (fun hc58 => ?_)
    · exact absurd hc58 (by decide)
    · refine Ex_iload d_rm_search_61 rfl ?_
      refine Ex_if_neN (0) 73 d_rm_search_63 rfl rfl (by omega) (fun hc63 => ?_) (fun hc63 => ?_)
      · exact absurd hc63 (by decide)
      · refine Ex_aload_n d_rm_search_66 rfl ?_
        refine Ex_getIE (y := (nI (e + 1))) d_rm_search_67 pf_rm_329 rfl (t_38 hs1) hd ?_
        refine Ex_if_leN (e + 1) 377 d_rm_search_70 rfl rfl (by omega) (fun hc70 => ?_) (fun hc70 => ?_)
        · exfalso; omega
        · refine Ex_iload d_rm_search_73 rfl ?_
          refine Ex_if_eqN (0) 148 d_rm_search_75 rfl rfl (by omega) (fun hc75 => ?_) (fun hc75 => ?_)
          · refine Ex_aload_n d_rm_search_148 rfl ?_
            refine Ex_getIE (y := (nI (e + 1))) d_rm_search_149 pf_rm_329 rfl (t_38 hs1) hd ?_
            refine Ex_iconst d_rm_search_152 ic_1 ?_
            refine Ex_isubN (e + 1) (1) d_rm_search_153 rfl rfl (by omega) ?_
            rw [show ((nI ((e + 1) - 1)) : Int32) = (nI (e)) from rfl]
            refine Ex_istore [some (.ref 38), some (.int (nI (w))), some (.int (bI (y))), some (.int (nI (a))), some (.int (0)), some (.int (nI (e))), none] d_rm_search_154 (Nat.le_of_ble_eq_true rfl) rfl ?_
            refine Ex_aload_n d_rm_search_156 rfl ?_
            refine Ex_getR (v := .ref 69) d_rm_search_157 pf_rm_103 rfl (t_38 hs1) (r_38_44 hs1) ?_
            refine Ex_aload_n d_rm_search_160 rfl ?_
            refine Ex_getR (v := .ref 72) d_rm_search_161 pf_rm_112 rfl (t_38 hs1) (r_38_47 hs1) ?_
            refine Ex_iload d_rm_search_164 rfl ?_
            refine Ex_ialoadN (a := e) (y := (nI (zp Z e))) d_rm_search_166 (t_72 hs1) rfl (by omega) (by decide) ((hZ.2.1 _ he).1) ?_
            refine Ex_ialoadN (a := zp Z e) (y := (eP (some (qZ Z e, (zt Z e - 1) % 8)))) d_rm_search_167 (t_69 hs1) rfl (by omega) (by decide) (by rw [hZ.1.1.2.1 _ k5.1 k5.2.1, k3]) ?_
            refine Ex_if_eq 182 d_rm_search_168 rfl (fun hc168 => ?_) (fun hc168 => ?_)
            · exact absurd hc168 (fun q => by have q := (eP_z (n := 40) (Nat.le_refl _) (show okP 40 (some (qZ Z e, (zt Z e - 1) % 8)) from ⟨by unfold qZ; omega, by omega⟩)).mp q; cases q)
            · refine Ex_aload_n d_rm_search_171 rfl ?_
              refine Ex_aload_n d_rm_search_172 rfl ?_
              refine Ex_getR (v := .ref 72) d_rm_search_173 pf_rm_112 rfl (t_38 hs1) (r_38_47 hs1) ?_
              refine Ex_iload d_rm_search_176 rfl ?_
              refine Ex_ialoadN (a := e) (y := (nI (zp Z e))) d_rm_search_178 (t_72 hs1) rfl (by omega) (by decide) ((hZ.2.1 _ he).1) ?_
              refine Ex_cV1 d_rm_search_179 pk_rm_search_341 (t_38 hs1) (rm_takeBack_s hs1 hK1 hO hFO hf hF1 (LyI_ok hI.1) hZ.1.1 hZ.2.2.1.2.1.1 (k := zp Z e) k5.1 k5.2.1 (q := (qZ Z e, (zt Z e - 1) % 8)) k3 k2) ?_
              rintro rv h2 ⟨rfl, c1, c2, c3⟩
              show Ex S rm_search 182 [some (.ref 38), some (.int (nI (w))), some (.int (bI (y))), some (.int (nI (a))), some (.int (0)), some (.int (nI (e))), none] [] h2 _
              exact kx h2 (ZM_li hs1 hZ he c1 c2 c3) (by rw [c3.I (by omega) (by unfold Wly; omega)]; exact hd) (fr.tr (c3.mono Wly_sr))
          · exact absurd hc75 (by decide)
theorem rm_search_T {S : mj_S} {h : mj_H} (hs : HT h) {K : SK} (hK : KM K h) (hO : KO K) {F : SF} (hFO : FO K.1 F) {f : Nat} (hf : f < F.1) (hF : FT1 F f h) {n : Nat} {o : Nat → Nat} {w : Nat} (hw : w < 2147483648) {y : Bool} {a : Nat} (ha : a ≤ 1000) : ∀ (N : Nat) (Z : ZS) (h1 : mj_H) (v4 : Int32), zO K F f n Z → zW Z < N → zf Z < w → ZM K F f n o Z h1 → mI h1 38 49 = nI (zd Z + 1) → Fr (WSM f) h h1 → Ex S rm_search 182 [some (.ref 38), some (.int (nI (w))), some (.int (bI (y))), some (.int (nI (a))), some (.int (v4)), some (.int (nI (zd Z))), none] [] h1 (fun r h' => r = none ∧ sE f (rnS K F f n w y a N Z) h h') := by
  have hn := HT_n hs
  have hk40 := hO.1
  have hf6 := hFO.1
  intro N
  induction N with
  | zero => intro Z h1 v4 hI hN; exact absurd hN (Nat.not_lt_zero _)
  | succ N ih =>
    intro Z h1 v4 hI hN hfw hZ hd fr
    have hs1 : HT h1 := fr.ht hs (WSM_st f)
    have hK1 := KM_sr hs fr hK
    have hF1 := FT1_sr hs fr hF
    have hn64 := EnO_le hZ.1.2.1
    have hdn := hI.2.1
    have hn1 := fr.le
    have hL := LyI_ok hI.1.1
    have hl := LyI_lb hFO hf hI.1.1
    have hff := hI.1.2.1
    have htt := hI.2.2.2.2
    refine Ex_aload_n d_rm_search_182 rfl ?_
    refine Ex_aload_n d_rm_search_183 rfl ?_
    refine Ex_getR (v := .ref 72) d_rm_search_184 pf_rm_112 rfl (t_38 hs1) (r_38_47 hs1) ?_
    refine Ex_iload d_rm_search_187 rfl ?_
    refine Ex_ialoadN (a := zd Z) (y := (nI (zp Z (zd Z)))) d_rm_search_189 (t_72 hs1) rfl (by omega) (by decide) ((hZ.2.1 _ (Nat.le_refl _)).1) ?_
    refine Ex_aload_n d_rm_search_190 rfl ?_
    refine Ex_getR (v := .ref 73) d_rm_search_191 pf_rm_115 rfl (t_38 hs1) (r_38_48 hs1) ?_
    refine Ex_iload d_rm_search_194 rfl ?_
    refine Ex_ialoadN (a := zd Z) (y := (J (((zt Z (zd Z) : Nat) : Int) - 1))) d_rm_search_196 (t_73 hs1) rfl (by omega) (by decide) ((hZ.2.1 _ (Nat.le_refl _)).2) ?_
    refine Ex_iconst d_rm_search_197 ic_1 ?_
    refine Ex_iaddZ (((zt Z (zd Z) : Nat) : Int) - 1) ((1)) d_rm_search_198 rfl (by decide) ?_
    rw [show ((J ((((zt Z (zd Z) : Nat) : Int) - 1) + ((1)))) : Int32) = (nI (zt Z (zd Z))) from (by rw [nIJ]; congr 1; omega)]
    refine Ex_pV2 (v := .int (J (vN (nfS K F f (zL Z) (zl Z) (zp Z (zd Z)) (zt Z (zd Z)))))) d_rm_search_199 pk_rm_search_304 (t_38 hs1) (rm_nextFitting_s hs1 hK1 hO hFO hf hF1 hL hZ.1.1 hl (k := zp Z (zd Z)) hI.2.2.1.1 (t := zt Z (zd Z)) htt) ?_
    refine Ex_istore [some (.ref 38), some (.int (nI (w))), some (.int (bI (y))), some (.int (nI (a))), some (.int (v4)), some (.int (nI (zd Z))), some (.int (J (vN (nfS K F f (zL Z) (zl Z) (zp Z (zd Z)) (zt Z (zd Z))))))] d_rm_search_202 (Nat.le_of_ble_eq_true rfl) rfl ?_
    refine rm_search_I hs1 hK1 hO hFO hf hF1 hw ha hZ hd hI ?_ (8 * K.1 - zt Z (zd Z)) (zt Z (zd Z)) (by omega) rfl
    generalize hx : nxS K F f n y a Z = r
    rcases r with _ | x
    · show Ex S rm_search 274 [some (.ref 38), some (.int (nI (w))), some (.int (bI (y))), some (.int (nI (a))), some (.int (v4)), some (.int (nI (zd Z))), some (.int (-1))] [] h1 _
      refine Ex_iload d_rm_search_274 rfl ?_
      refine Ex_if_ltZ ((-1)) 283 d_rm_search_276 rfl (by decide) (by omega) (fun hc276 => ?_) (fun hc276 => ?_)
      · refine Ex_iconst d_rm_search_283 ic_0 ?_
        refine Ex_istore [some (.ref 38), some (.int (nI (w))), some (.int (bI (y))), some (.int (nI (a))), some (.int (0)), some (.int (nI (zd Z))), some (.int (-1))] d_rm_search_284 (Nat.le_of_ble_eq_true rfl) rfl ?_
        refine Ex_iload d_rm_search_286 rfl ?_
        refine Ex_if_neN (0) 304 d_rm_search_288 rfl rfl (by omega) (fun hc288 => ?_) (fun hc288 => ?_)
        · exact absurd hc288 (by decide)
        · refine Ex_aload_n d_rm_search_291 rfl ?_
          refine Ex_dup rfl d_rm_search_292 ?_
          refine Ex_getIE (y := (nI (zd Z + 1))) d_rm_search_293 pf_rm_329 rfl (t_38 hs1) hd ?_
          refine Ex_iconst d_rm_search_296 ic_1 ?_
          refine Ex_isubN (zd Z + 1) (1) d_rm_search_297 rfl rfl (by omega) ?_
          rw [show ((nI ((zd Z + 1) - 1)) : Int32) = (nI (zd Z)) from rfl]
          refine Ex_putI d_rm_search_298 pf_rm_329 (Or.inl rfl) (t_38 hs1) (Or.inl rfl) ?_
          have hZ2 := ZM_dep hs1 hZ (nI (zd Z))
          have fr2 : Fr (WSM f) h (wI h1 38 49 (nI (zd Z))) := fr.sI (by unfold WSM; omega)
          refine Ex_goto 46 d_rm_search_301 rfl ?_
          by_cases hz : zd Z = 0
          · refine Ex_aload_n d_rm_search_46 rfl ?_
            refine Ex_getIE (y := (nI (zf Z))) d_rm_search_47 pf_rm_319 rfl (t_38 hs1) hZ2.2.2.1.1.2 ?_
            refine Ex_iload_n d_rm_search_50 rfl ?_
            refine Ex_icmp_geN (zf Z) (w) 377 d_rm_search_51 rfl rfl rfl (by omega) (by omega) (fun hc51 => ?_) (fun hc51 => ?_)
            · exfalso; omega
            · refine Ex_aload_n d_rm_search_54 rfl ?_
              refine Ex_getIE (y := (0 : Int32)) d_rm_search_55 pf_rm_325 rfl (t_38 hs1) hZ2.2.2.1.2.2.2 ?_
              refine Ex_if_neN (0) 377 d_rm_search_58 rfl rfl (by omega) (fun hc58 => ?_) (fun hc58 => ?_)
              · exact absurd hc58 (by decide)
              · refine Ex_iload d_rm_search_61 rfl ?_
                refine Ex_if_neN (0) 73 d_rm_search_63 rfl rfl (by omega) (fun hc63 => ?_) (fun hc63 => ?_)
                · exact absurd hc63 (by decide)
                · refine Ex_aload_n d_rm_search_66 rfl ?_
                  refine Ex_getIE (y := (nI (zd Z))) d_rm_search_67 pf_rm_329 rfl (t_38 hs1) (mI_self _ _ _ _) ?_
                  refine Ex_if_leN (zd Z) 377 d_rm_search_70 rfl rfl (by omega) (fun hc70 => ?_) (fun hc70 => ?_)
                  · refine Ex_return d_rm_search_377 rfl ?_
                    rw [rn_s (tn_0 hx hz)]
                    exact ⟨rfl, ZM_sE fr2 hZ2⟩
                  · exfalso; omega
          · rw [rn_n (tn_b hx hz)]
            obtain ⟨e, hze⟩ : ∃ e, zd Z = e + 1 := ⟨zd Z - 1, by omega⟩
            have hI2 : zI K F f n (e + 1) Z := hze ▸ hI.1
            obtain ⟨z1, z2, z3, z4, z5⟩ := zO_li hI2
            refine Ex_forget (ls' := [some (.ref 38), some (.int (nI (w))), some (.int (bI (y))), some (.int (nI (a))), some (.int (0)), none, none]) (sub_s (sub_s (sub_s (sub_s (sub_s (sub_n (sub_n sub_0))))))) ?_
            refine rm_search_B hs hK hO hFO hf hF hw ha fr2 hZ2 (by rw [mI_self, hze]) hI2 (by omega) hfw (fun h3 g1 g2 g3 => ?_)
            rw [show zd Z - 1 = e by omega]
            exact ih (liZ K Z e) h3 0 z1 (by have : zW (liZ K Z e) = 2 * (30000 - zs Z) + e := rfl; have : zW Z = 2 * (30000 - zs Z) + zd Z := rfl; omega) hfw g1 g2 g3
      · exact absurd hc276 (by decide)
    · obtain ⟨hx1, hx2⟩ := nx_b hx htt
      show Ex S rm_search 274 [some (.ref 38), some (.int (nI (w))), some (.int (bI (y))), some (.int (nI (a))), some (.int (v4)), some (.int (nI (zd Z))), some (.int (J ((x : Int))))] [] h1 _
      rw [← nIJ]
      refine Ex_iload d_rm_search_274 rfl ?_
      refine Ex_if_ltN (x) 283 d_rm_search_276 rfl rfl (by omega) (fun hc276 => ?_) (fun hc276 => ?_)
      · exfalso; omega
      · refine Ex_iconst d_rm_search_279 ic_1 ?_
        refine Ex_goto 284 d_rm_search_280 rfl ?_
        refine Ex_istore [some (.ref 38), some (.int (nI (w))), some (.int (bI (y))), some (.int (nI (a))), some (.int (1)), some (.int (nI (zd Z))), some (.int (nI (x)))] d_rm_search_284 (Nat.le_of_ble_eq_true rfl) rfl ?_
        refine Ex_iload d_rm_search_286 rfl ?_
        refine Ex_if_neN (1) 304 d_rm_search_288 rfl rfl (by omega) (fun hc288 => ?_) (fun hc288 => ?_)
        · refine Ex_aload_n d_rm_search_304 rfl ?_
          refine Ex_getIE (y := (nI (zs Z))) d_rm_search_305 pf_rm_316 rfl (t_38 hs1) (by first | exact hZ.2.2.1.1.1 | (rw [mI_oth (Or.inr (by decide))]; exact hZ.2.2.1.1.1)) ?_
          refine Ex_sipush d_rm_search_308 sp_30000 ?_
          refine Ex_icmp_eqN (zs Z) (30000) 324 d_rm_search_311 rfl rfl rfl (by omega) (by omega) (fun hc311 => ?_) (fun hc311 => ?_)
          · refine Ex_aload_n d_rm_search_324 rfl ?_
            refine Ex_iconst d_rm_search_325 ic_1 ?_
            refine Ex_putI d_rm_search_326 pf_rm_325 (Or.inl rfl) (t_38 hs1) (Or.inr ⟨rfl, (by decide)⟩) ?_
            refine Ex_goto 46 d_rm_search_329 rfl ?_
            refine Ex_aload_n d_rm_search_46 rfl ?_
            refine Ex_getIE (y := (nI (zf Z))) d_rm_search_47 pf_rm_319 rfl (t_38 hs1) (by rw [mI_oth (Or.inr (by decide))]; exact hZ.2.2.1.1.2) ?_
            refine Ex_iload_n d_rm_search_50 rfl ?_
            refine Ex_icmp_geN (zf Z) (w) 377 d_rm_search_51 rfl rfl rfl (by omega) (by omega) (fun hc51 => ?_) (fun hc51 => ?_)
            · exfalso; omega
            · refine Ex_aload_n d_rm_search_54 rfl ?_
              refine Ex_getIE (y := (1 : Int32)) d_rm_search_55 pf_rm_325 rfl (t_38 hs1) (mI_self _ _ _ _) ?_
              refine Ex_if_neN (1) 377 d_rm_search_58 rfl rfl (by omega) (fun hc58 => ?_) (fun hc58 => ?_)
              · refine Ex_return d_rm_search_377 rfl ?_
                rw [rn_s (tn_o hx (by omega))]
                exact ⟨rfl, ZM_sO fr hZ⟩
              · exact absurd hc58 (by decide)
          · refine Ex_aload_n d_rm_search_314 rfl ?_
            refine Ex_getIE (y := (nI (ze Z))) d_rm_search_315 pf_rm_344 rfl (t_38 hs1) (by first | exact hZ.2.2.1.2.2.1 | (rw [mI_oth (Or.inr (by decide))]; exact hZ.2.2.1.2.2.1)) ?_
            refine Ex_ldc_w pi_rm_347 d_rm_search_318 ?_
            refine Ex_icmp_neN (ze Z) (600000) 332 d_rm_search_321 rfl rfl rfl (by omega) (by omega) (fun hc321 => ?_) (fun hc321 => ?_)
            · have hns : ¬ (zs Z = 30000 ∨ ze Z = 600000) := by omega
              have hI2 := zI_la hI hx1 hx2 hns
              have fr3 : Fr (WSM f) h (wI (wI (wI h1 38 50 (nI (zs Z + 1))) 38 41 (nI (ze Z + 1))) 73 (zd Z) (nI x)) := ((fr.sI (by unfold WSM; omega)).sI (by unfold WSM; omega)).sI (by unfold WSM; omega)
              have hM3 : SM K.1 F f (zL Z) (zl Z) (wI (wI (wI h1 38 50 (nI (zs Z + 1))) 38 41 (nI (ze Z + 1))) 73 (zd Z) (nI x)) := SM_fr hs1 (W := fun a k => (a = 73) ∨ (a = 38 ∧ (k = 50 ∨ k = 41))) (((Fr.rf.sI (Or.inr ⟨rfl, Or.inl rfl⟩)).sI (Or.inr ⟨rfl, Or.inr rfl⟩)).sI (Or.inl rfl)) (by omega) (by omega) (by omega) hZ.1.1
              refine Ex_aload_n d_rm_search_332 rfl ?_
              refine Ex_dup rfl d_rm_search_333 ?_
              refine Ex_getIE (y := (nI (zs Z))) d_rm_search_334 pf_rm_316 rfl (t_38 hs1) (by first | exact hZ.2.2.1.1.1 | (rw [mI_oth (Or.inr (by decide))]; exact hZ.2.2.1.1.1)) ?_
              refine Ex_iconst d_rm_search_337 ic_1 ?_
              refine Ex_iaddN (zs Z) (1) d_rm_search_338 rfl rfl ?_
              refine Ex_putI d_rm_search_339 pf_rm_316 (Or.inl rfl) (t_38 hs1) (Or.inl rfl) ?_
              refine Ex_aload_n d_rm_search_342 rfl ?_
              refine Ex_dup rfl d_rm_search_343 ?_
              refine Ex_getIE (y := (nI (ze Z))) d_rm_search_344 pf_rm_344 rfl (t_38 hs1) (by first | exact hZ.2.2.1.2.2.1 | (rw [mI_oth (Or.inr (by decide))]; exact hZ.2.2.1.2.2.1)) ?_
              refine Ex_iconst d_rm_search_347 ic_1 ?_
              refine Ex_iaddN (ze Z) (1) d_rm_search_348 rfl rfl ?_
              refine Ex_putI d_rm_search_349 pf_rm_344 (Or.inl rfl) (t_38 hs1) (Or.inl rfl) ?_
              refine Ex_aload_n d_rm_search_352 rfl ?_
              refine Ex_getR (v := .ref 73) d_rm_search_353 pf_rm_115 rfl (t_38 hs1) (r_38_48 hs1) ?_
              refine Ex_iload d_rm_search_356 rfl ?_
              refine Ex_iload d_rm_search_358 rfl ?_
              refine Ex_iastoreN (a := zd Z) d_rm_search_360 (t_73 hs1) rfl (by omega) (by decide) ?_
              refine Ex_aload_n d_rm_search_361 rfl ?_
              refine Ex_aload_n d_rm_search_362 rfl ?_
              refine Ex_getR (v := .ref 72) d_rm_search_363 pf_rm_112 rfl (t_38 hs1) (r_38_47 hs1) ?_
              refine Ex_iload d_rm_search_366 rfl ?_
              refine Ex_ialoadN (a := zd Z) (y := (nI (zp Z (zd Z)))) d_rm_search_368 (t_72 hs1) rfl (by omega) (by decide) (by rw [mI_oth (Or.inl (by decide)), mI_oth (Or.inl (by decide)), mI_oth (Or.inl (by decide))]; exact (hZ.2.1 _ (Nat.le_refl _)).1) ?_
              refine Ex_iload d_rm_search_369 rfl ?_
              refine Ex_cV2 d_rm_search_371 pk_rm_search_348 (t_38 hs1) (rm_lay_s (h := (wI (wI (wI h1 38 50 (nI (zs Z + 1))) 38 41 (nI (ze Z + 1))) 73 (zd Z) (nI x))) hs1 (KM_sr hs fr3 hK) hO hFO hf (FT1_sr hs fr3 hF) hL hM3 (c := zc Z) (by rw [mI_oth (Or.inl (by decide)), mI_oth (Or.inr (by decide)), mI_oth (Or.inr (by decide))]; exact hZ.2.2.1.2.1.1) (k := zp Z (zd Z)) hI.2.2.1.1 (n := x) hx1 hx2) ?_
              rintro rv h4 ⟨rfl, c1, c2, c3⟩
              have hZ4 : ZM K F f n o (laZ K Z x) h4 := ZM_la hs1 hZ c1 c2 c3
              have fr4 : Fr (WSM f) h h4 := fr3.tr (c3.mono Wly_sr)
              have hs4 : HT h4 := fr4.ht hs (WSM_st f)
              have hd4 : mI h4 38 49 = nI (zd Z + 1) := by rw [c3.I (by show 38 < mN h1; omega) (by unfold Wly; omega), mI_oth (Or.inl (by decide)), mI_oth (Or.inr (by decide)), mI_oth (Or.inr (by decide))]; exact hd
              have hff2 := hI2.2.1
              have hzf2 : zf (laZ K Z x) = zf Z := rfl
              have hzs2 : zs (laZ K Z x) = zs Z + 1 := rfl
              show Ex S rm_search 374 [some (.ref 38), some (.int (nI (w))), some (.int (bI (y))), some (.int (nI (a))), some (.int (1)), some (.int (nI (zd Z))), some (.int (nI (x)))] [] h4 _
              refine Ex_goto 46 d_rm_search_374 rfl ?_
              refine Ex_aload_n d_rm_search_46 rfl ?_
              refine Ex_getIE (y := (nI (zf Z))) d_rm_search_47 pf_rm_319 rfl (t_38 hs4) hZ4.2.2.1.1.2 ?_
              refine Ex_iload_n d_rm_search_50 rfl ?_
              refine Ex_icmp_geN (zf Z) (w) 377 d_rm_search_51 rfl rfl rfl (by omega) (by omega) (fun hc51 => ?_) (fun hc51 => ?_)
              · exfalso; omega
              · refine Ex_aload_n d_rm_search_54 rfl ?_
                refine Ex_getIE (y := (0 : Int32)) d_rm_search_55 pf_rm_325 rfl (t_38 hs4) hZ4.2.2.1.2.2.2 ?_
                refine Ex_if_neN (0) 377 d_rm_search_58 rfl rfl (by omega) (fun hc58 => ?_) (fun hc58 => ?_)
                · exact absurd hc58 (by decide)
                · refine Ex_iload d_rm_search_61 rfl ?_
                  refine Ex_if_neN (1) 73 d_rm_search_63 rfl rfl (by omega) (fun hc63 => ?_) (fun hc63 => ?_)
                  · refine Ex_iload d_rm_search_73 rfl ?_
                    refine Ex_if_eqN (1) 148 d_rm_search_75 rfl rfl (by omega) (fun hc75 => ?_) (fun hc75 => ?_)
                    · exact absurd hc75 (by decide)
                    · refine Ex_aload_n d_rm_search_78 rfl ?_
                      refine Ex_pV0 (v := .int (J (vN (npS K F f (zL (laZ K Z x)) (zl (laZ K Z x)))))) d_rm_search_79 pk_rm_search_335 (t_38 hs4) (rm_nextPlace_s hs4 (KM_sr hs fr4 hK) hO hFO hf (FT1_sr hs fr4 hF) (LyI_ok hI2.1) hZ4.1.1 (LyI_lb hFO hf hI2.1) hZ4.1.2) ?_
                      refine Ex_istore [some (.ref 38), some (.int (nI (w))), some (.int (bI (y))), some (.int (nI (a))), some (.int (1)), some (.int (J (vN (npS K F f (zL (laZ K Z x)) (zl (laZ K Z x)))))), some (.int (nI (x)))] d_rm_search_82 (Nat.le_of_ble_eq_true rfl) rfl ?_
                      rcases np_or hI2 hZ4.1.2.1 with ⟨hm, b, hb1, hb2, hb3⟩ | ⟨hm, hb1⟩
                      · rw [hb1, show vN (some b) = (b : Int) from rfl, ← nIJ]
                        refine Ex_iload d_rm_search_84 rfl ?_
                        refine Ex_if_geN (b) 117 d_rm_search_86 rfl rfl (by omega) (fun hc86 => ?_) (fun hc86 => ?_)
                        · refine Ex_aload_n d_rm_search_117 rfl ?_
                          refine Ex_getR (v := .ref 72) d_rm_search_118 pf_rm_112 rfl (t_38 hs4) (r_38_47 hs4) ?_
                          refine Ex_aload_n d_rm_search_121 rfl ?_
                          refine Ex_getIE (y := (nI (zd Z + 1))) d_rm_search_122 pf_rm_329 rfl (t_38 hs4) (by first | exact hd4 | (rw [mI_oth (Or.inl (by decide))]; exact hd4) | (rw [mI_oth (Or.inl (by decide)), mI_oth (Or.inl (by decide))]; exact hd4)) ?_
                          refine Ex_iload d_rm_search_125 rfl ?_
                          refine Ex_iastoreN (a := zd Z + 1) d_rm_search_127 (t_72 hs4) rfl (by omega) (by decide) ?_
                          refine Ex_aload_n d_rm_search_128 rfl ?_
                          refine Ex_getR (v := .ref 73) d_rm_search_129 pf_rm_115 rfl (t_38 hs4) (r_38_48 hs4) ?_
                          refine Ex_aload_n d_rm_search_132 rfl ?_
                          refine Ex_getIE (y := (nI (zd Z + 1))) d_rm_search_133 pf_rm_329 rfl (t_38 hs4) (by first | exact hd4 | (rw [mI_oth (Or.inl (by decide))]; exact hd4) | (rw [mI_oth (Or.inl (by decide)), mI_oth (Or.inl (by decide))]; exact hd4)) ?_
                          refine Ex_iconst d_rm_search_136 ic_m1 ?_
                          refine Ex_iastoreN (a := zd Z + 1) d_rm_search_137 (t_73 hs4) rfl (by omega) (by decide) ?_
                          refine Ex_aload_n d_rm_search_138 rfl ?_
                          refine Ex_dup rfl d_rm_search_139 ?_
                          refine Ex_getIE (y := (nI (zd Z + 1))) d_rm_search_140 pf_rm_329 rfl (t_38 hs4) (by first | exact hd4 | (rw [mI_oth (Or.inl (by decide))]; exact hd4) | (rw [mI_oth (Or.inl (by decide)), mI_oth (Or.inl (by decide))]; exact hd4)) ?_
                          refine Ex_iconst d_rm_search_143 ic_1 ?_
                          refine Ex_iaddN (zd Z + 1) (1) d_rm_search_144 rfl rfl ?_
                          refine Ex_putI d_rm_search_145 pf_rm_329 (Or.inl rfl) (t_38 hs4) (Or.inl rfl) ?_
                          have hZ7 := ZM_pu hs4 hZ4 b (v := nI (zd Z + 1 + 1))
                          have hI7 := zO_pu (Z := laZ K Z x) hI2 hm hb2 hb3
                          have fr7 : Fr (WSM f) h (wI (wI (wI h4 72 (zd Z + 1) (nI b)) 73 (zd Z + 1) (-1)) 38 49 (nI (zd Z + 1 + 1))) := ((fr4.sI (by unfold WSM; omega)).sI (by unfold WSM; omega)).sI (by unfold WSM; omega)
                          refine Ex_aload_n d_rm_search_148 rfl ?_
                          refine Ex_getIE (y := (nI (zd Z + 1 + 1))) d_rm_search_149 pf_rm_329 rfl (t_38 hs4) (mI_self _ _ _ _) ?_
                          refine Ex_iconst d_rm_search_152 ic_1 ?_
                          refine Ex_isubN (zd Z + 1 + 1) (1) d_rm_search_153 rfl rfl (by omega) ?_
                          rw [show ((nI ((zd Z + 1 + 1) - 1)) : Int32) = (nI (zd Z + 1)) from rfl]
                          refine Ex_istore [some (.ref 38), some (.int (nI (w))), some (.int (bI (y))), some (.int (nI (a))), some (.int (1)), some (.int (nI (zd Z + 1))), some (.int (nI (x)))] d_rm_search_154 (Nat.le_of_ble_eq_true rfl) rfl ?_
                          refine Ex_aload_n d_rm_search_156 rfl ?_
                          refine Ex_getR (v := .ref 69) d_rm_search_157 pf_rm_103 rfl (t_38 hs4) (r_38_44 hs4) ?_
                          refine Ex_aload_n d_rm_search_160 rfl ?_
                          refine Ex_getR (v := .ref 72) d_rm_search_161 pf_rm_112 rfl (t_38 hs4) (r_38_47 hs4) ?_
                          refine Ex_iload d_rm_search_164 rfl ?_
                          refine Ex_ialoadN (a := zd Z + 1) (y := (nI (b))) d_rm_search_166 (t_72 hs4) rfl (by omega) (by decide) (by rw [mI_oth (Or.inl (by decide)), mI_oth (Or.inl (by decide)), mI_self]) ?_
                          refine Ex_ialoadN (a := b) (y := (eP none)) d_rm_search_167 (t_69 hs4) rfl (by omega) (by decide) (by rw [mI_oth (Or.inl (by decide)), mI_oth (Or.inl (by decide)), mI_oth (Or.inl (by decide)), hZ4.1.1.2.1 _ hb2.1 hb2.2.1, hb3]) ?_
                          refine Ex_if_eq 182 d_rm_search_168 rfl (fun hc168 => ?_) (fun hc168 => ?_)
                          · refine Ex_forget (ls' := [some (.ref 38), some (.int (nI (w))), some (.int (bI (y))), some (.int (nI (a))), some (.int (1)), some (.int (nI (zd Z + 1))), none]) (sub_s (sub_s (sub_s (sub_s (sub_s (sub_s (sub_n sub_0))))))) ?_
                            rw [rn_n (tn_p hx hns hb1)]
                            exact ih (puZ (laZ K Z x) b) _ 1 hI7 (by have : zW (puZ (laZ K Z x) b) = 2 * (30000 - (zs Z + 1)) + (zd Z + 1) := rfl; have : zW Z = 2 * (30000 - zs Z) + zd Z := rfl; omega) hfw hZ7 (mI_self _ _ _ _) fr7
                          · exact absurd rfl hc168
                        · exfalso; omega
                      · rw [hb1]
                        show Ex S rm_search 84 [some (.ref 38), some (.int (nI (w))), some (.int (bI (y))), some (.int (nI (a))), some (.int (1)), some (.int (-1)), some (.int (nI (x)))] [] h4 _
                        refine Ex_iload d_rm_search_84 rfl ?_
                        refine Ex_if_geZ ((-1)) 117 d_rm_search_86 rfl (by decide) (by omega) (fun hc86 => ?_) (fun hc86 => ?_)
                        · exact absurd hc86 (by decide)
                        · have f46 : Fr (fun a k => a = 38 ∧ (k = 51 ∨ k = 53)) h4 (wI (wI h4 38 51 (nI (zf (laZ K Z x) + 1))) 38 53 (nI (zc (laZ K Z x)))) := (Fr.rf.sI ⟨rfl, Or.inl rfl⟩).sI ⟨rfl, Or.inr rfl⟩
                          have fr6 : Fr (WSM f) h (wI (wI h4 38 51 (nI (zf (laZ K Z x) + 1))) 38 53 (nI (zc (laZ K Z x)))) := (fr4.sI (by unfold WSM; omega)).sI (by unfold WSM; omega)
                          refine Ex_aload_n d_rm_search_89 rfl ?_
                          refine Ex_dup rfl d_rm_search_90 ?_
                          refine Ex_getIE (y := (nI (zf Z))) d_rm_search_91 pf_rm_319 rfl (t_38 hs4) hZ4.2.2.1.1.2 ?_
                          refine Ex_iconst d_rm_search_94 ic_1 ?_
                          refine Ex_iaddN (zf Z) (1) d_rm_search_95 rfl rfl ?_
                          refine Ex_putI d_rm_search_96 pf_rm_319 (Or.inl rfl) (t_38 hs4) (Or.inl rfl) ?_
                          refine Ex_aload_n d_rm_search_99 rfl ?_
                          refine Ex_aload_n d_rm_search_100 rfl ?_
                          refine Ex_getIE (y := (nI (zc (laZ K Z x)))) d_rm_search_101 pf_rm_313 rfl (t_38 hs4) (by rw [mI_oth (Or.inr (by decide))]; exact hZ4.2.2.1.2.1.1) ?_
                          refine Ex_putI d_rm_search_104 pf_rm_322 (Or.inl rfl) (t_38 hs4) (Or.inl rfl) ?_
                          refine Ex_aload_n d_rm_search_107 rfl ?_
                          refine Ex_cV0 d_rm_search_108 pk_rm_search_338 (t_38 hs4) (rm_show_s (h := (wI (wI h4 38 51 (nI (zf (laZ K Z x) + 1))) 38 53 (nI (zc (laZ K Z x))))) (K := K) (F := F) (f := f) (L := zL (laZ K Z x)) (l := zl (laZ K Z x)) (n := n) (o := o) hs4 (KM_sr hs fr6 hK) hO hFO hf (FT1_sr hs fr6 hF) (SM_fr hs4 f46 (by omega) (by omega) (by omega) hZ4.1.1) (OM_fr hs4 f46 (by omega) (by omega) hZ4.1.2)) ?_
                          rintro rv h8 ⟨rfl, c8⟩
                          have hZ8 : ZM K F f n o (fiZ F f (laZ K Z x)) h8 := ZM_fi hs4 hZ4 c8
                          have fr8 : Fr (WSM f) h h8 := fr6.tr (c8.1.mono Wsh_sr)
                          have hI8 : zI K F f n (zd Z + 1) (fiZ F f (laZ K Z x)) := zI_fi hO hI2 hn64 (by omega)
                          have hd8 : mI h8 38 49 = nI (zd Z + 1) := by rw [c8.1.I (by show 38 < mN h4; have := fr4.le; omega) (by unfold Wsh; omega), mI_oth (Or.inr (by decide)), mI_oth (Or.inr (by decide))]; exact hd4
                          have hs8 : HT h8 := fr8.ht hs (WSM_st f)
                          show Ex S rm_search 111 [some (.ref 38), some (.int (nI (w))), some (.int (bI (y))), some (.int (nI (a))), some (.int (1)), some (.int (-1)), some (.int (nI (x)))] [] h8 _
                          refine Ex_iconst d_rm_search_111 ic_0 ?_
                          refine Ex_istore [some (.ref 38), some (.int (nI (w))), some (.int (bI (y))), some (.int (nI (a))), some (.int (0)), some (.int (-1)), some (.int (nI (x)))] d_rm_search_112 (Nat.le_of_ble_eq_true rfl) rfl ?_
                          refine Ex_goto 46 d_rm_search_114 rfl ?_
                          by_cases hwf : w ≤ zf Z + 1
                          · refine Ex_aload_n d_rm_search_46 rfl ?_
                            refine Ex_getIE (y := (nI (zf Z + 1))) d_rm_search_47 pf_rm_319 rfl (t_38 hs8) hZ8.2.2.1.1.2 ?_
                            refine Ex_iload_n d_rm_search_50 rfl ?_
                            refine Ex_icmp_geN (zf Z + 1) (w) 377 d_rm_search_51 rfl rfl rfl (by omega) (by omega) (fun hc51 => ?_) (fun hc51 => ?_)
                            · refine Ex_return d_rm_search_377 rfl ?_
                              rw [rn_s (tn_f hx hns hb1 hwf)]
                              exact ⟨rfl, ZM_sE fr8 hZ8⟩
                            · exfalso; omega
                          · rw [rn_n (tn_g hx hns hb1 hwf)]
                            obtain ⟨z1, z2, z3, z4, z5⟩ := zO_li hI8
                            refine Ex_forget (ls' := [some (.ref 38), some (.int (nI (w))), some (.int (bI (y))), some (.int (nI (a))), some (.int (0)), none, none]) (sub_s (sub_s (sub_s (sub_s (sub_s (sub_n (sub_n sub_0))))))) ?_
                            refine rm_search_B hs hK hO hFO hf hF hw ha fr8 hZ8 hd8 hI8 (Nat.le_refl _) (show zf Z + 1 < w by omega) (fun h9 g1 g2 g3 => ?_)
                            exact ih _ h9 0 z1 (by have : zW (liZ K (fiZ F f (laZ K Z x)) (zd Z)) = 2 * (30000 - (zs Z + 1)) + zd Z := rfl; have : zW Z = 2 * (30000 - zs Z) + zd Z := rfl; omega) (show zf Z + 1 < w by omega) g1 g2 g3
                  · exact absurd hc63 (by decide)
            · refine Ex_aload_n d_rm_search_324 rfl ?_
              refine Ex_iconst d_rm_search_325 ic_1 ?_
              refine Ex_putI d_rm_search_326 pf_rm_325 (Or.inl rfl) (t_38 hs1) (Or.inr ⟨rfl, (by decide)⟩) ?_
              refine Ex_goto 46 d_rm_search_329 rfl ?_
              refine Ex_aload_n d_rm_search_46 rfl ?_
              refine Ex_getIE (y := (nI (zf Z))) d_rm_search_47 pf_rm_319 rfl (t_38 hs1) (by rw [mI_oth (Or.inr (by decide))]; exact hZ.2.2.1.1.2) ?_
              refine Ex_iload_n d_rm_search_50 rfl ?_
              refine Ex_icmp_geN (zf Z) (w) 377 d_rm_search_51 rfl rfl rfl (by omega) (by omega) (fun hc51 => ?_) (fun hc51 => ?_)
              · exfalso; omega
              · refine Ex_aload_n d_rm_search_54 rfl ?_
                refine Ex_getIE (y := (1 : Int32)) d_rm_search_55 pf_rm_325 rfl (t_38 hs1) (mI_self _ _ _ _) ?_
                refine Ex_if_neN (1) 377 d_rm_search_58 rfl rfl (by omega) (fun hc58 => ?_) (fun hc58 => ?_)
                · refine Ex_return d_rm_search_377 rfl ?_
                  rw [rn_s (tn_o hx (by omega))]
                  exact ⟨rfl, ZM_sO fr hZ⟩
                · exact absurd hc58 (by decide)
        · exact absurd hc288 (by decide)
