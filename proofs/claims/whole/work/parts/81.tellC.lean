/-! The class: the places beside are told. -/
theorem bsd_b {F : SF} {f k e : Nat} (hR : fR F f ≤ 8) (hC : fC F f ≤ 8) (h : 0 ≤ bsd F f k e) : (bsd F f k e).toNat < 64 ∧ inF F f (bsd F f k e).toNat ∧ bsd F f k e = (((bsd F f k e).toNat : Nat) : Int) := by
  unfold bsd bsI at h ⊢
  split at h
  · rename_i z
    rw [if_pos z]
    refine ⟨by omega, ⟨by omega, by omega⟩, by omega⟩
  · exact absurd h (by decide)
theorem bsd_n {F : SF} {f k e : Nat} (h : ¬ 0 ≤ bsd F f k e) : bsd F f k e = -1 := by
  unfold bsd bsI at h ⊢
  split at h
  · rename_i z
    exfalso
    omega
  · rename_i z
    rw [if_neg z]
theorem bsd_lo {F : SF} {f k e : Nat} (hR : fR F f ≤ 8) (hC : fC F f ≤ 8) : -1 ≤ bsd F f k e ∧ bsd F f k e < 64 := by
  by_cases h : 0 ≤ bsd F f k e
  · have := bsd_b hR hC h
    omega
  · have := bsd_n h
    omega
theorem bsd_sy {F : SF} {f k j e : Nat} (hR : fR F f ≤ 8) (hC : fC F f ≤ 8) (hk : inF F f k) (hj : inF F f j) (he : e < 4) : bsd F f k ((e + 2) % 4) = (j : Int) ↔ bsd F f j e = (k : Int) := by
  obtain ⟨k1, k2⟩ := hk
  obtain ⟨j1, j2⟩ := hj
  obtain rfl | rfl | rfl | rfl : e = 0 ∨ e = 1 ∨ e = 2 ∨ e = 3 := by omega
  · show bsI F f (((k / 8 : Nat) : Int) + 1) (((k % 8 : Nat) : Int) + 0) = _ ↔ bsI F f (((j / 8 : Nat) : Int) + -1) (((j % 8 : Nat) : Int) + 0) = _
    unfold bsI
    refine ⟨fun z => ?_, fun z => ?_⟩
    · split at z
      · rw [if_pos (by omega)]; omega
      · omega
    · split at z
      · rw [if_pos (by omega)]; omega
      · omega
  · show bsI F f (((k / 8 : Nat) : Int) + 0) (((k % 8 : Nat) : Int) + -1) = _ ↔ bsI F f (((j / 8 : Nat) : Int) + 0) (((j % 8 : Nat) : Int) + 1) = _
    unfold bsI
    refine ⟨fun z => ?_, fun z => ?_⟩
    · split at z
      · rw [if_pos (by omega)]; omega
      · omega
    · split at z
      · rw [if_pos (by omega)]; omega
      · omega
  · show bsI F f (((k / 8 : Nat) : Int) + -1) (((k % 8 : Nat) : Int) + 0) = _ ↔ bsI F f (((j / 8 : Nat) : Int) + 1) (((j % 8 : Nat) : Int) + 0) = _
    unfold bsI
    refine ⟨fun z => ?_, fun z => ?_⟩
    · split at z
      · rw [if_pos (by omega)]; omega
      · omega
    · split at z
      · rw [if_pos (by omega)]; omega
      · omega
  · show bsI F f (((k / 8 : Nat) : Int) + 0) (((k % 8 : Nat) : Int) + 1) = _ ↔ bsI F f (((j / 8 : Nat) : Int) + 0) (((j % 8 : Nat) : Int) + -1) = _
    unfold bsI
    refine ⟨fun z => ?_, fun z => ?_⟩
    · split at z
      · rw [if_pos (by omega)]; omega
      · omega
    · split at z
      · rw [if_pos (by omega)]; omega
      · omega
theorem bo_beside_s {S : mj_S} {h : mj_H} (hs : HT h) {F : SF} {n : Nat} (hFO : FO n F) {f : Nat} (hf : f < F.1) (hB : BrC F f h) {k : Nat} (hk : k < 64) {e : Nat} (he : e < 4) : Cl S bo_beside [.ref 7, .int (nI k), .int (nI e)] h (Pu (.int (J (bsd F f k e))) h) := by
  obtain rfl | rfl | rfl | rfl : e = 0 ∨ e = 1 ∨ e = 2 ∨ e = 3 := by omega
  · exact bo_beside_0 hs hFO hf hB hk
  · exact bo_beside_1 hs hFO hf hB hk
  · exact bo_beside_2 hs hFO hf hB hk
  · exact bo_beside_3 hs hFO hf hB hk
theorem ch_colourOf_p {S : mj_S} {h : mj_H} (hs : HT h) {K : SK} (hK : KC K h) (hO : KO K) {p : Pl} (hp : okP K.1 p) {e : Nat} (he : e < 4) : Cl S ch_colourOf [.ref 8, .int (cQ p), .int (nI e)] h (Pu (.int (nI (coS K p e))) h) := by
  match p, hp with
  | none, _ => exact ch_colourOf_m1
  | some (k, m), hp =>
    have h1 : k < K.1 := hp.1
    have h2 : m < 8 := hp.2
    have z := ch_colourOf_v (S := S) hs hK hO (n := 8 * k + m) (by omega) he
    rw [show (8 * k + m) / 8 = k by omega, show (8 * k + m) % 8 = m by omega] at z
    exact z
theorem ch_colourOf_d {S : mj_S} {h : mj_H} (hs : HT h) {K : SK} (hK : KC K h) (hO : KO K) {F : SF} (hFO : FO K.1 F) {f : Nat} (hf : f < F.1) {L : Nat → Pl} (hL : okLy K.1 L) {k : Nat} (hk : k < 64) {e : Nat} (he : e < 4) : Cl S ch_colourOf [.ref 8, .int (cdB F f L k), .int (nI e)] h (Pu (.int (nI (coS K (lyK F f L k) e))) h) := by
  unfold cdB lyK
  have ho := ((hFO.2.2 f hf).2.1 k hk).1
  match fT F f k, ho with
  | none, _ => exact ch_colourOf_p hs hK hO (hL k) he
  | some none, _ => exact ch_colourOf_m2
  | some (some q), ho => exact ch_colourOf_p hs hK hO (p := some q) ho he
def tl1 (K : SK) (F : SF) (f : Nat) (L : Nat → Pl) (k : Nat) (wn : Nat → Nat → Nat) (e : Nat) : Nat → Nat → Nat := fun j u => if bsd F f k e = (j : Int) ∧ u = (e + 2) % 4 then coS K (lyK F f L k) e else wn j u
def tlN (K : SK) (F : SF) (f : Nat) (L : Nat → Pl) (k : Nat) (wn : Nat → Nat → Nat) : Nat → Nat → Nat → Nat
  | 0 => wn
  | e + 1 => tl1 K F f L k (tlN K F f L k wn e) e
theorem tlN_s {K : SK} {F : SF} {f : Nat} {L : Nat → Pl} {k : Nat} {wn : Nat → Nat → Nat} {j u : Nat} (hu : u < 4) : ∀ n, n ≤ 4 → tlN K F f L k wn n j u = if (u + 2) % 4 < n ∧ bsd F f k ((u + 2) % 4) = (j : Int) then coS K (lyK F f L k) ((u + 2) % 4) else wn j u
  | 0, _ => by rw [if_neg (fun z => absurd z.1 (Nat.not_lt_zero _))]; rfl
  | n + 1, hn => by
    show (if bsd F f k n = (j : Int) ∧ u = (n + 2) % 4 then coS K (lyK F f L k) n else tlN K F f L k wn n j u) = _
    rw [tlN_s hu n (by omega)]
    by_cases q : u = (n + 2) % 4
    · have h1 : (u + 2) % 4 = n := by omega
      rw [h1]
      by_cases r : bsd F f k n = (j : Int)
      · rw [if_pos ⟨r, q⟩, if_pos ⟨by omega, r⟩]
      · rw [if_neg (fun z => r z.1), if_neg (fun z => r z.2), if_neg (fun z => r z.2)]
    · rw [if_neg (fun z => q z.2)]
      by_cases r : (u + 2) % 4 < n ∧ bsd F f k ((u + 2) % 4) = (j : Int)
      · rw [if_pos r, if_pos ⟨by omega, r.2⟩]
      · rw [if_neg r, if_neg (fun z => r ⟨by omega, z.2⟩)]
theorem lyK_o {F : SF} {f : Nat} {L : Nat → Pl} {k j : Nat} {p : Pl} (h : j ≠ k) : lyK F f (lyS L k p) j = lyK F f L j := by
  unfold lyK lyS va_up
  rw [if_neg h]
theorem tl_end {K : SK} {F : SF} {f : Nat} (hR : fR F f ≤ 8) (hC : fC F f ≤ 8) {L : Nat → Pl} {k : Nat} {p : Pl} (hk : inF F f k) {j u : Nat} (hj : inF F f j) (hu : u < 4) : tlN K F f (lyS L k p) k (wnS K F f L) 4 j u = wnS K F f (lyS L k p) j u := by
  rw [tlN_s hu 4 (Nat.le_refl _)]
  have hsy := bsd_sy hR hC hk hj hu
  by_cases q : bsd F f j u = (k : Int)
  · rw [if_pos ⟨Nat.mod_lt _ (by decide), hsy.mpr q⟩]
    unfold wnS lyD
    rw [if_pos (by omega), q]
    rfl
  · rw [if_neg (fun z => q (hsy.mp z.2))]
    unfold wnS lyD
    by_cases r : 0 ≤ bsd F f j u
    · rw [if_pos r, if_pos r, lyK_o (by omega)]
    · rw [if_neg r, if_neg r]
def W1314 (a k : Nat) : Prop := a = 13 ∨ a = 14
theorem W1314_st : ∀ q ∈ statR, ¬ W1314 q.1 q.2.1 := by
  have h2 : ∀ q ∈ statR, ¬ (q.1 = 13 ∨ q.1 = 14) := by decide
  exact h2
theorem W1314_B : ∀ a k, W1314 a k → WBo a k := by intro a k; unfold W1314 WBo; omega
theorem W14_3 : ∀ a k, W14 a k → W1314 a k := by intro a k; unfold W14 W1314; omega
theorem BX_13 {K : SK} {F : SF} {f s : Nat} {cd : Nat → Nat} {L : Nat → Pl} {l : Nat → Nat} {wn : Nat → Nat → Nat} {h : mj_H} (hs : HT h) (z : BX K F f s cd L l wn h) {k e b : Nat} (hb : bsd F f k e = (b : Int)) (he : e < 4) : BX K F f s cd L l (tl1 K F f L k wn e) (wI h 13 (b * 4 + (e + 2) % 4) (nI (coS K (lyK F f L k) e))) := by
  have fr : Fr (fun a j => a = 13) h (wI h 13 (b * 4 + (e + 2) % 4) (nI (coS K (lyK F f L k) e))) := Fr.rf.sI rfl
  refine ⟨BT_fr hs fr (by omega) (by omega) (by omega) (by omega) z.1, BcC_fr hs fr (by omega) (by omega) z.2.1, fun j hj hi u hu => ?_, LfC_fr hs fr (by omega) z.2.2.2.1, LbC_fr hs fr (by omega) z.2.2.2.2⟩
  unfold tl1
  by_cases q : bsd F f k e = (j : Int) ∧ u = (e + 2) % 4
  · rw [if_pos q]
    have : j = b := by have := q.1; omega
    rw [this, q.2, mI_self]
    exact ⟨rfl, coS_17 _ _ _⟩
  · rw [if_neg q, mI_oth (Or.inr (by
      intro w
      apply q
      have : j = b ∧ u = (e + 2) % 4 := by omega
      rw [hb, this.1]
      exact ⟨rfl, this.2⟩))]
    exact z.2.2.1 j hj hi u hu
theorem tl1_row {K : SK} {F : SF} {f : Nat} {L : Nat → Pl} {k : Nat} {wn : Nat → Nat → Nat} {e j : Nat} (h : ¬ bsd F f k e = (j : Int)) : tl1 K F f L k wn e j = wn j := by
  funext u
  exact if_neg (fun z => h z.1)
theorem bo_tellAround_L {S : mj_S} {Q : Option Value → mj_H → Prop} {h : mj_H} (hs : HT h) {K : SK} (hK : KC K h) (hO : KO K) {F : SF} (hFO : FO K.1 F) {f : Nat} (hf : f < F.1) {s : Nat} {cd : Nat → Nat} {L : Nat → Pl} (hL : okLy K.1 L) {l : Nat → Nat} {wn : Nat → Nat → Nat} {k : Nat} (hk : k < 64)
    (kx : ∀ h1 : mj_H, ((BX K F f s cd L l (tlN K F f L k wn 4) h1 ∧ FgX K F f s cd L l (tlN K F f L k wn 4) h1) ∧ Fr W1314 h h1) → Ex S bo_tellAround 57 [some (.ref 7), some (.int (nI (k))), some (.int (nI (4))), none] [] h1 Q) : ∀ d e : Nat, e + d = 4 → ∀ h1 : mj_H, ((BX K F f s cd L l (tlN K F f L k wn e) h1 ∧ FgX K F f s cd L l (tlN K F f L k wn e) h1) ∧ Fr W1314 h h1) → Ex S bo_tellAround 2 [some (.ref 7), some (.int (nI (k))), some (.int (nI (e))), none] [] h1 Q := by
  intro d
  induction d with
  | zero =>
    intro e hkk h1 hI
    obtain rfl : 4 = e := by omega
    have hn4 := HT_n hs
    have hs1 := hI.2.ht hs W1314_st
    have hn5 := HT_n hs1
    refine Ex_iload_n d_bo_tellAround_2 rfl ?_
    refine Ex_iconst d_bo_tellAround_3 ic_4 ?_
    refine Ex_icmp_geN (4) (4) 57 d_bo_tellAround_4 rfl rfl rfl (by omega) (by omega) (fun hc4 => ?_) (fun hc4 => ?_)
    · exact kx h1 hI
    · exfalso; omega
  | succ d ih =>
    intro e hkk h1 hI
    have hn4 := HT_n hs
    have hs1 := hI.2.ht hs W1314_st
    have hn5 := HT_n hs1
    have hK1 := KC_B hs (hI.2.mono W1314_B) hK
    have hsz := (hFO.2.2 f hf).1
    have hbl := bsd_lo (F := F) (f := f) (k := k) (e := e) (by omega) (by omega)
    refine Ex_iload_n d_bo_tellAround_2 rfl ?_
    refine Ex_iconst d_bo_tellAround_3 ic_4 ?_
    refine Ex_icmp_geN (e) (4) 57 d_bo_tellAround_4 rfl rfl rfl (by omega) (by omega) (fun hc4 => ?_) (fun hc4 => ?_)
    · exfalso; omega
    · refine Ex_aload_n d_bo_tellAround_7 rfl ?_
      refine Ex_iload_n d_bo_tellAround_8 rfl ?_
      refine Ex_iload_n d_bo_tellAround_9 rfl ?_
      refine Ex_pV2 (v := .int (J (bsd F f k e))) d_bo_tellAround_10 pk_bo_tellAround_83 (t_7 hs1) (bo_beside_s hs1 hFO hf hI.1.1.1.2.2 hk (by omega)) ?_
      refine Ex_istore_n [some (.ref 7), some (.int (nI (k))), some (.int (nI (e))), some (.int (J (bsd F f k e)))] d_bo_tellAround_13 (Nat.le_of_ble_eq_true rfl) rfl ?_
      refine Ex_iload_n d_bo_tellAround_14 rfl ?_
      refine Ex_if_ltZ (bsd F f k e) 51 d_bo_tellAround_15 rfl rfl (by omega) (fun hc15 => ?_) (fun hc15 => ?_)
      · refine Ex_iincN (e) 1 [some (.ref 7), some (.int (nI (k))), some (.int (nI (e + 1))), some (.int (J (bsd F f k e)))] d_bo_tellAround_51 rfl rfl rfl rfl ?_
        refine Ex_goto 2 d_bo_tellAround_54 rfl ?_
        refine Ex_forget (ls' := [some (.ref 7), some (.int (nI (k))), some (.int (nI (e + 1))), none]) (sub_s (sub_s (sub_s (sub_n sub_0)))) ?_
        have hwn : tlN K F f L k wn (e + 1) = tlN K F f L k wn e := funext (fun j => tl1_row (by omega))
        refine ih (e + 1) (by omega) _ ?_
        rw [hwn]
        exact hI
      · obtain ⟨hb2, hb3, hb4⟩ := bsd_b (F := F) (f := f) (k := k) (e := e) (by omega) (by omega) (by omega)
        obtain ⟨b, hb⟩ : ∃ b : Nat, b = (bsd F f k e).toNat := ⟨_, rfl⟩
        rw [← hb] at hb2 hb3 hb4
        rw [hb4, ← nIJ]
        refine Ex_aload_n d_bo_tellAround_18 rfl ?_
        refine Ex_getR (v := .ref 13) d_bo_tellAround_19 pf_bo_21 rfl (t_7 hs1) (r_7_6 hs1) ?_
        refine Ex_iload_n d_bo_tellAround_22 rfl ?_
        refine Ex_iconst d_bo_tellAround_23 ic_4 ?_
        refine Ex_imulN (b) (4) d_bo_tellAround_24 rfl rfl ?_
        refine Ex_iload_n d_bo_tellAround_25 rfl ?_
        refine Ex_iconst d_bo_tellAround_26 ic_2 ?_
        refine Ex_iaddN (e) (2) d_bo_tellAround_27 rfl rfl ?_
        refine Ex_iconst d_bo_tellAround_28 ic_3 ?_
        refine Ex_iand d_bo_tellAround_29 ?_
        rw [show (((nI (e + 2)) &&& (3 : Int32)) : Int32) = (nI ((e + 2) % 4)) from (nI_3 _)]
        refine Ex_iaddN (b * 4) ((e + 2) % 4) d_bo_tellAround_30 rfl rfl ?_
        refine Ex_aload_n d_bo_tellAround_31 rfl ?_
        refine Ex_getR (v := .ref 8) d_bo_tellAround_32 pf_bo_41 rfl (t_7 hs1) (r_7_0 hs1) ?_
        refine Ex_aload_n d_bo_tellAround_35 rfl ?_
        refine Ex_getR (v := .ref 11) d_bo_tellAround_36 pf_bo_11 rfl (t_7 hs1) (r_7_4 hs1) ?_
        refine Ex_iload_n d_bo_tellAround_39 rfl ?_
        refine Ex_ialoadN (a := k) (y := (cdB F f L k)) d_bo_tellAround_40 (t_11 hs1) rfl (by omega) (by decide) (hI.1.1.2.1 k hk).1 ?_
        refine Ex_iload_n d_bo_tellAround_41 rfl ?_
        refine Ex_pV2 (v := .int (nI (coS K (lyK F f L k) e))) d_bo_tellAround_42 pk_bo_tellAround_90 (t_8 hs1) (ch_colourOf_d hs1 hK1 hO hFO hf hL hk (by omega)) ?_
        refine Ex_iastoreN (a := (b * 4) + ((e + 2) % 4)) d_bo_tellAround_45 (t_13 hs1) rfl (by omega) (by decide) ?_
        have hX2 : BX K F f s cd L l (tlN K F f L k wn (e + 1)) (wI h1 13 (b * 4 + ((e + 2) % 4)) (nI (coS K (lyK F f L k) e))) := BX_13 hs1 hI.1.1 hb4 (by omega)
        refine Ex_aload_n d_bo_tellAround_46 rfl ?_
        refine Ex_iload_n d_bo_tellAround_47 rfl ?_
        refine Ex_cV1 d_bo_tellAround_48 pk_bo_tellAround_105 (t_7 hs1) (bo_recount_s (show HT (wI h1 13 (b * 4 + ((e + 2) % 4)) (nI (coS K (lyK F f L k) e))) from hs1) hO hL hX2 (k := b) hb2) ?_
        rintro rv h2 ⟨rfl, w1, w2⟩
        show Ex S bo_tellAround 51 [some (.ref 7), some (.int (nI (k))), some (.int (nI (e))), some (.int (nI (b)))] [] h2 _
        refine Ex_iincN (e) 1 [some (.ref 7), some (.int (nI (k))), some (.int (nI (e + 1))), some (.int (nI (b)))] d_bo_tellAround_51 rfl rfl rfl rfl ?_
        refine Ex_goto 2 d_bo_tellAround_54 rfl ?_
        refine Ex_forget (ls' := [some (.ref 7), some (.int (nI (k))), some (.int (nI (e + 1))), none]) (sub_s (sub_s (sub_s (sub_n sub_0)))) ?_
        refine ih (e + 1) (by omega) _ ⟨⟨BX_14 (show HT (wI h1 13 (b * 4 + ((e + 2) % 4)) (nI (coS K (lyK F f L k) e))) from hs1) (w1.mono (fun a j z => z.1)) hX2, fun j hj hw => ?_⟩, (hI.2.sI (Or.inl rfl)).tr (w1.mono (fun a j z => Or.inr z.1))⟩
        by_cases q : j = b
        · rw [q]; rw [q] at hw; exact w2 hw
        · rw [w1.I (by show 14 < mN h1; omega) (fun z => q z.2), mI_oth (Or.inl (by decide)), show tlN K F f L k wn (e + 1) j = tlN K F f L k wn e j from tl1_row (by omega)]
          exact hI.1.2 j hj hw
theorem bo_tellAround_s {S : mj_S} {h : mj_H} (hs : HT h) {K : SK} (hK : KC K h) (hO : KO K) {F : SF} (hFO : FO K.1 F) {f : Nat} (hf : f < F.1) {s : Nat} {cd : Nat → Nat} {L : Nat → Pl} (hL : okLy K.1 L) {l : Nat → Nat} {wn : Nat → Nat → Nat} {k : Nat} (hk : k < 64) (hX : BX K F f s cd L l wn h) (hG : FgX K F f s cd L l wn h) : Cl S bo_tellAround [.ref 7, .int (nI (k))] h (fun r h' => r = none ∧ BX K F f s cd L l (tlN K F f L k wn 4) h' ∧ FgX K F f s cd L l (tlN K F f L k wn 4) h' ∧ Fr W1314 h h') := by
  show Ex S bo_tellAround 0 [some (.ref 7), some (.int (nI (k))), none, none] [] h _
  refine Ex_iconst d_bo_tellAround_0 ic_0 ?_
  refine Ex_istore_n [some (.ref 7), some (.int (nI (k))), some (.int (0)), none] d_bo_tellAround_1 (Nat.le_of_ble_eq_true rfl) rfl ?_
  refine bo_tellAround_L (wn := wn) hs hK hO hFO hf hL hk (fun h1 hI => ?_) 4 0 rfl h ⟨⟨hX, hG⟩, Fr.rf⟩
  refine Ex_return d_bo_tellAround_57 rfl ?_
  exact ⟨rfl, hI.1.1, hI.1.2, hI.2⟩
