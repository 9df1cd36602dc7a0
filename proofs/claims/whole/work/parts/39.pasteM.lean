/-! Pasting; the reference: comes, paste. -/
def comeB (G : SG) (P : SP) (p : Nat) (i j : Int) (q b : Nat) : Bool := (G.2.2 (q * G.2.1 + b)).isSome && (cAt P p (i + (q : Int)) (j + (b : Int))).isSome
def cmN (G : SG) (P : SP) (p : Nat) (i j : Int) (q : Nat) : Nat → Nat
  | 0 => 0
  | b + 1 => cmN G P p i j q b + (if comeB G P p i j q b = true then 1 else 0)
def smN (G : SG) (P : SP) (p : Nat) (i j : Int) : Nat → Nat
  | 0 => 0
  | q + 1 => smN G P p i j q + cmN G P p i j q G.2.1
def rwN (G : SG) (P : SP) (p : Nat) (i j : Int) : Nat → Nat
  | 0 => 0
  | q + 1 => rwN G P p i j q + (if 0 < cmN G P p i j q G.2.1 then 1 else 0)
def pB (G : SG) (q r : Nat) (j : Int) : Nat → SP → SP
  | 0, P => P
  | b + 1, P => if (G.2.2 (q * G.2.1 + b)).isSome = true ∧ (rAt (pB G q r j b P) r (j + (b : Int))).isSome = true then uCell (pB G q r j b P) r (j + (b : Int) - pO P r).toNat ((G.2.2 (q * G.2.1 + b)).getD none) else pB G q r j b P
def pA (G : SG) (p : Nat) (i j : Int) : Nat → SP → SP
  | 0, P => P
  | q + 1, P => if 0 < cmN G P p i j q G.2.1 then pB G q (pMd (pA G p i j q P)) j G.2.1 (ownP (pA G p i j q P) p (i + (q : Int)).toNat) else pA G p i j q P
theorem cmN_le (G : SG) (P : SP) (p : Nat) (i j : Int) (q : Nat) : ∀ b, cmN G P p i j q b ≤ b
  | 0 => Nat.le_refl _
  | b + 1 => by
    have := cmN_le G P p i j q b
    unfold cmN
    split <;> omega
theorem smN_le (G : SG) (P : SP) (p : Nat) (i j : Int) (hc : G.2.1 ≤ 20) : ∀ q, smN G P p i j q ≤ 20 * q
  | 0 => Nat.le_refl _
  | q + 1 => by
    have := smN_le G P p i j hc q
    have := cmN_le G P p i j q G.2.1
    unfold smN
    omega
theorem rwN_le (G : SG) (P : SP) (p : Nat) (i j : Int) : ∀ q, rwN G P p i j q ≤ q
  | 0 => Nat.le_refl _
  | q + 1 => by
    have := rwN_le G P p i j q
    unfold rwN
    split <;> omega
theorem rwN_mono (G : SG) (P : SP) (p : Nat) (i j : Int) (q : Nat) : ∀ d, rwN G P p i j q ≤ rwN G P p i j (q + d)
  | 0 => Nat.le_refl _
  | d + 1 => by
    have := rwN_mono G P p i j q d
    show _ ≤ rwN G P p i j (q + d) + _
    omega
theorem rw_sm (G : SG) (P : SP) (p : Nat) (i j : Int) : ∀ q, rwN G P p i j q = 0 ↔ smN G P p i j q = 0
  | 0 => by simp [rwN, smN]
  | q + 1 => by
    have := rw_sm G P p i j q
    unfold rwN smN
    split <;> omega
theorem pB_sh (G : SG) (q r : Nat) (j : Int) : ∀ b P, pL (pB G q r j b P) = pL P ∧ pO (pB G q r j b P) = pO P ∧ pPat (pB G q r j b P) = pPat P ∧ pMd (pB G q r j b P) = pMd P ∧ pNp (pB G q r j b P) = pNp P ∧ pHi (pB G q r j b P) = pHi P
  | 0, P => ⟨rfl, rfl, rfl, rfl, rfl, rfl⟩
  | b + 1, P => by
    have := pB_sh G q r j b P
    unfold pB
    split
    · exact this
    · exact this
theorem rAt_sh {P P' : SP} {r r' : Nat} (h1 : pL P' r' = pL P r) (h2 : pO P' r' = pO P r) (x : Int) : (rAt P' r' x).isSome = (rAt P r x).isSome := by
  unfold rAt
  rw [h1, h2]
  split <;> rfl
def ShE (P P' : SP) (p : Nat) : Prop := (pPat P' p).length = (pPat P p).length ∧ ∀ t, t < (pPat P p).length → pL P' ((pPat P' p).getD t 0) = pL P ((pPat P p).getD t 0) ∧ pO P' ((pPat P' p).getD t 0) = pO P ((pPat P p).getD t 0)
theorem ShE.rf {P : SP} {p : Nat} : ShE P P p := ⟨rfl, fun _ _ => ⟨rfl, rfl⟩⟩
theorem ShE.tr {P P1 P2 : SP} {p : Nat} (f : ShE P P1 p) (g : ShE P1 P2 p) : ShE P P2 p := ⟨g.1.trans f.1, fun t ht => by
  have a := f.2 t ht
  have b := g.2 t (by rw [f.1]; exact ht)
  exact ⟨b.1.trans a.1, b.2.trans a.2⟩⟩
theorem ShE.at {P P' : SP} {p : Nat} (f : ShE P P' p) (x y : Int) : (cAt P' p x y).isSome = (cAt P p x y).isSome := by
  unfold cAt
  rw [f.1]
  split
  · rename_i h
    have := f.2 x.toNat (by omega)
    exact rAt_sh this.1 this.2 y
  · rfl
theorem ShE.cm {P P' : SP} {p : Nat} (f : ShE P P' p) (G : SG) (i j : Int) (q : Nat) : ∀ b, cmN G P' p i j q b = cmN G P p i j q b
  | 0 => rfl
  | b + 1 => by
    unfold cmN comeB
    rw [f.cm G i j q b, f.at]
theorem ShE.sm {P P' : SP} {p : Nat} (f : ShE P P' p) (G : SG) (i j : Int) : ∀ q, smN G P' p i j q = smN G P p i j q
  | 0 => rfl
  | q + 1 => by
    unfold smN
    rw [f.sm G i j q, f.cm]
theorem ShE.rw {P P' : SP} {p : Nat} (f : ShE P P' p) (G : SG) (i j : Int) : ∀ q, rwN G P' p i j q = rwN G P p i j q
  | 0 => rfl
  | q + 1 => by
    unfold rwN
    rw [f.rw G i j q, f.cm]
theorem ShE_own {n : Nat} {P : SP} (hQ : PO n P) {p t : Nat} (hp : p < pNp P) (ht : t < (pPat P p).length) : ShE P (ownP P p t) p := by
  have e : pPat (ownP P p t) p = (pPat P p).set t (pMd P) := by simp [ownP, uPat, pPat, va_up]
  refine ⟨own_len, fun u hu => ?_⟩
  rw [e, set_get ht]
  split
  · rename_i z
    subst z
    exact ⟨own_Ln, own_O⟩
  · have := PO_row hQ hp hu
    exact ⟨own_Lo this, newR_Oo (l := pL P ((pPat P p).getD t 0)) (z := pO P ((pPat P p).getD t 0)) (c := pC P ((pPat P p).getD t 0)) this⟩
theorem ShE_B (G : SG) (q r : Nat) (j : Int) (b : Nat) (P : SP) (p : Nat) : ShE P (pB G q r j b P) p := by
  obtain ⟨a1, a2, a3, -⟩ := pB_sh G q r j b P
  unfold ShE
  rw [a1, a2, a3]
  exact ⟨rfl, fun _ _ => ⟨rfl, rfl⟩⟩
theorem PO_uCell {n : Nat} {P : SP} (h : PO n P) {r k : Nat} {c : Tl} (hc : okT n c) : PO n (uCell P r k c) := by
  refine ⟨h.1, fun r0 hr0 => ?_, h.2.2⟩
  obtain ⟨a1, a2, a3, a4⟩ := h.2.1 r0 hr0
  refine ⟨a1, a2, a3, fun k0 hk0 => ?_⟩
  show okT n (va_up (pC P) r (va_up (pC P r) k c) r0 k0)
  unfold va_up
  split
  · rename_i z
    subst z
    show okT n (if k0 = k then c else pC P r0 k0)
    split
    · exact hc
    · exact a4 k0 hk0
  · exact a4 k0 hk0
theorem ShE_keep {P : SP} {p : Nat} : ShE P (keepP P p) p := ⟨rfl, fun _ _ => ⟨rfl, rfl⟩⟩
theorem PO_B {n : Nat} {G : SG} (hG : ∀ k, k < G.1 * G.2.1 → okA n (G.2.2 k)) {q r : Nat} {j : Int} (hq : q < G.1) : ∀ {b : Nat} {P : SP}, b ≤ G.2.1 → PO n P → PO n (pB G q r j b P)
  | 0, P, _, h => h
  | b + 1, P, hb, h => by
    have := PO_B hG (r := r) (j := j) hq (b := b) (P := P) (by omega) h
    unfold pB
    split
    · exact PO_uCell this (okA_get (hG _ (idx_lt hq (by omega))))
    · exact this
theorem cm_in {G : SG} {P : SP} {p : Nat} {i j : Int} {q : Nat} : ∀ {b : Nat}, 0 < cmN G P p i j q b → 0 ≤ i + (q : Int) ∧ i + (q : Int) < (pPat P p).length
  | 0, h => absurd h (Nat.lt_irrefl 0)
  | b + 1, h => by
    unfold cmN at h
    by_cases hb : 0 < cmN G P p i j q b
    · exact cm_in hb
    · split at h
      · rename_i z
        unfold comeB at z
        rw [Bool.and_eq_true] at z
        obtain ⟨c, hc⟩ := Option.isSome_iff_exists.mp z.2
        have := cAt_some hc
        exact ⟨this.1, this.2.1⟩
      · omega
theorem pA_ok {n : Nat} {G : SG} (hG : ∀ k, k < G.1 * G.2.1 → okA n (G.2.2 k)) {p : Nat} {i j : Int} {P : SP} (hQ : PO n P) (hp : p < pNp P) : ∀ q, q ≤ G.1 → pMd P + rwN G P p i j q ≤ 6000 → PO n (pA G p i j q P) ∧ ShE P (pA G p i j q P) p ∧ pMd (pA G p i j q P) = pMd P + rwN G P p i j q ∧ pNp (pA G p i j q P) = pNp P ∧ pHi (pA G p i j q P) = pHi P
  | 0, _, _ => ⟨hQ, ShE.rf, rfl, rfl, rfl⟩
  | q + 1, hq, hm => by
    have hm' : pMd P + rwN G P p i j q + (if 0 < cmN G P p i j q G.2.1 then 1 else 0) ≤ 6000 := by unfold rwN at hm; omega
    obtain ⟨h1, h2, h3, h4, h5⟩ := pA_ok hG hQ hp (i := i) (j := j) q (by omega) (by omega)
    unfold pA rwN
    split
    · rename_i hc
      rw [if_pos hc] at hm'
      have hin := cm_in hc
      have hl := h2.1
      have hi : (i + (q : Int)).toNat < (pPat (pA G p i j q P) p).length := by omega
      have hp' : p < pNp (pA G p i j q P) := by omega
      have o1 := PO_own h1 hp' hi (by omega)
      have s1 := ShE_own h1 hp' hi
      obtain ⟨b1, b2, b3, b4, b5, b6⟩ := pB_sh G q (pMd (pA G p i j q P)) j G.2.1 (ownP (pA G p i j q P) p (i + (q : Int)).toNat)
      refine ⟨PO_B hG (by omega) (Nat.le_refl _) o1, (h2.tr s1).tr (ShE_B ..), ?_, ?_, ?_⟩
      · rw [b4]
        show pMd (pA G p i j q P) + 1 = _
        omega
      · rw [b5]
        exact h4
      · rw [b6]
        exact h5
    · exact ⟨h1, h2, by omega, h4, h5⟩
theorem RwM_uCell {n : Nat} {P : SP} {h : mj_H} (hQ : PO n P) (hR : RwM P h) {r k : Nat} {c : Tl} (hr : r < pMd P) (hk : k < pL P r) : RwM (uCell P r k c) (wI h 46 (60 * r + k) (eM c)) := by
  refine ⟨by rw [mI_oth (Or.inl (by decide))]; exact hR.1, fun r0 hr0 => ?_⟩
  obtain ⟨a1, a2, a3⟩ := hR.2 r0 hr0
  have hl := (hQ.2.1 r0 hr0).1
  have hl2 := (hQ.2.1 r hr).1
  refine ⟨by rw [mI_oth (Or.inl (by decide))]; exact a1, by rw [mI_oth (Or.inl (by decide))]; exact a2, fun k0 hk0 => ?_⟩
  have hk0 : k0 < pL P r0 := hk0
  show _ = eM (va_up (pC P) r (va_up (pC P r) k c) r0 k0)
  unfold va_up
  by_cases hrr : r0 = r
  · subst hrr
    rw [if_pos rfl]
    by_cases hkk : k0 = k
    · subst hkk
      rw [if_pos rfl, mI_self]
    · rw [if_neg hkk, mI_oth (Or.inr (by omega))]
      exact a3 k0 hk0
  · rw [if_neg hrr, mI_oth (Or.inr (by omega))]
    exact a3 k0 hk0
theorem PM_uCell {n : Nat} {P : SP} {h : mj_H} (hs : HT h) (hQ : PO n P) (hP : PM P h) {r k : Nat} {c : Tl} (hr : r < pMd P) (hk : k < pL P r) : PM (uCell P r k c) (wI h 46 (60 * r + k) (eM c)) :=
  ⟨RwM_uCell hQ hP.1 hr hk, PaM_fr (P := uCell P r k c) hs (Fr.sI (W := fun a _ => a = 46) Fr.rf rfl) (by intro a k; unfold WPa; omega) hP.2.1, HiM_fr (P := uCell P r k c) hs (Fr.sI (W := fun a _ => a = 46) Fr.rf rfl) (by intro a k; unfold WHi; omega) hP.2.2⟩
abbrev okPs (G : SG) (P : SP) (p i j : Int) : Prop := 0 ≤ p ∧ p < pNp P ∧ ¬ G.1 = 0 ∧ rwN G P p.toNat i j G.1 ≤ 6000 - pMd P
def psP (G : SG) (P : SP) (p i j : Int) : SP := if 0 < smN G P p.toNat i j G.1 then pA G p.toNat i j G.1 (keepP P p.toNat) else P
theorem psP_ok {n : Nat} {G : SG} (hG : GO n G) {P : SP} (hQ : PO n P) {p i j : Int} (hok : okPs G P p i j) : PO n (psP G P p i j) := by
  unfold psP
  split
  · have hmd : pMd P ≤ 6000 := hQ.1
    exact (pA_ok hG.2 (PO_keep hQ (show p.toNat < pNp P by omega)) (show p.toNat < pNp P by omega) G.1 (Nat.le_refl _) (by have := hok.2.2.2; rw [ShE_keep.rw]; show pMd P + rwN G P p.toNat i j G.1 ≤ 6000; omega)).1
  · exact hQ
theorem rm_comes_L {S : mj_S} {Q : Option Value → mj_H → Prop} {h : mj_H} (hs : HT h) {P : SP} (hP : PM P h) {n : Nat} (hQ : PO n P) {G : SG} (hG : GM G h) (hGO : GO n G) {a : Nat} (ha : a < pNp P) {i j : Int} (hi : -2147483648 ≤ i ∧ i < 2147483648) (hj : -2147483648 ≤ j ∧ j < 2147483648) {q : Nat} (hq : q < G.1)
    (kx : Ex S rm_comes 69 [some (.ref 38), some (.int (nI (a))), some (.int (J (i))), some (.int (J (j))), some (.int (nI (q))), some (.int (nI (cmN G P a i j q (G.2.1)))), some (.int (nI (G.2.1)))] [] h Q) : ∀ d k : Nat, k + d = G.2.1 → Ex S rm_comes 6 [some (.ref 38), some (.int (nI (a))), some (.int (J (i))), some (.int (J (j))), some (.int (nI (q))), some (.int (nI (cmN G P a i j q (k)))), some (.int (nI (k)))] [] h Q := by
  obtain ⟨hg1, hg2, hg3⟩ := GO_le hGO
  intro d
  induction d with
  | zero =>
    intro k hk
    obtain rfl : k = G.2.1 := by omega
    refine Ex_iload d_rm_comes_6 rfl ?_
    refine Ex_aload_n d_rm_comes_8 rfl ?_
    refine Ex_getIE d_rm_comes_9 pf_rm_224 rfl (t_38 hs) hG.2.1 ?_
    refine Ex_icmp_geN (G.2.1) (G.2.1) 69 d_rm_comes_12 rfl rfl rfl (by omega) (by omega) (fun hc12 => ?_) (fun hc12 => ?_)
    · exact kx
    · exfalso; omega
  | succ d ih =>
    intro k hk
    have hx := idx_lt hq (show k < G.2.1 by omega)
    have hcl := cmN_le G P a i j q k
    refine Ex_iload d_rm_comes_6 rfl ?_
    refine Ex_aload_n d_rm_comes_8 rfl ?_
    refine Ex_getIE d_rm_comes_9 pf_rm_224 rfl (t_38 hs) hG.2.1 ?_
    refine Ex_icmp_geN (k) (G.2.1) 69 d_rm_comes_12 rfl rfl rfl (by omega) (by omega) (fun hc12 => ?_) (fun hc12 => ?_)
    · exfalso; omega
    · refine Ex_iload d_rm_comes_15 rfl ?_
      refine Ex_aload_n d_rm_comes_17 rfl ?_
      refine Ex_getR d_rm_comes_18 pf_rm_58 rfl (t_38 hs) (r_38_22 hs) ?_
      refine Ex_iload d_rm_comes_21 rfl ?_
      refine Ex_aload_n d_rm_comes_23 rfl ?_
      refine Ex_getIE d_rm_comes_24 pf_rm_224 rfl (t_38 hs) hG.2.1 ?_
      refine Ex_imulN (q) (G.2.1) d_rm_comes_27 rfl rfl ?_
      refine Ex_iload d_rm_comes_28 rfl ?_
      refine Ex_iaddN (q * G.2.1) (k) d_rm_comes_30 rfl rfl ?_
      refine Ex_baloadN (a := (q * G.2.1) + k) d_rm_comes_31 (t_54 hs) rfl (by omega) (by decide) (hG.2.2 _ hx).1 ?_
      refine Ex_if_eqB ((G.2.2 (q * G.2.1 + k)).isSome) 59 d_rm_comes_32 rfl rfl (fun hc32 => ?_) (fun hc32 => ?_)
      · refine Ex_iconst d_rm_comes_59 ic_0 ?_
        refine Ex_iaddN (cmN G P a i j q (k)) (0) d_rm_comes_60 rfl rfl ?_
        refine Ex_istore [some (.ref 38), some (.int (nI (a))), some (.int (J (i))), some (.int (J (j))), some (.int (nI (q))), some (.int (nI ((cmN G P a i j q (k)) + 0))), some (.int (nI (k)))] d_rm_comes_61 (Nat.le_of_ble_eq_true rfl) rfl ?_
        refine Ex_iincN (k) 1 [some (.ref 38), some (.int (nI (a))), some (.int (J (i))), some (.int (J (j))), some (.int (nI (q))), some (.int (nI ((cmN G P a i j q (k)) + 0))), some (.int (nI (k + 1)))] d_rm_comes_63 rfl rfl rfl rfl ?_
        refine Ex_goto 6 d_rm_comes_66 rfl ?_
        have z := ih (k + 1) (by omega)
        rw [show cmN G P a i j q (k + 1) = cmN G P a i j q k + 0 by
          show _ + _ = _
          unfold comeB
          first | (rw [hc32]; rfl) | (rw [hc52, Bool.and_false]; rfl)] at z
        exact z
      · refine Ex_aload_n d_rm_comes_35 rfl ?_
        refine Ex_iload_n d_rm_comes_36 rfl ?_
        refine Ex_iload_n d_rm_comes_37 rfl ?_
        refine Ex_i2lZ (i) d_rm_comes_38 rfl (by omega) ?_
        refine Ex_iload d_rm_comes_39 rfl ?_
        refine Ex_i2lZ (((q : Nat) : Int)) d_rm_comes_41 (nIJ _) (by omega) ?_
        refine Ex_laddZ (i) (((q : Nat) : Int)) d_rm_comes_42 rfl rfl ?_
        refine Ex_iload_n d_rm_comes_43 rfl ?_
        refine Ex_i2lZ (j) d_rm_comes_44 rfl (by omega) ?_
        refine Ex_iload d_rm_comes_45 rfl ?_
        refine Ex_i2lZ (((k : Nat) : Int)) d_rm_comes_47 (nIJ _) (by omega) ?_
        refine Ex_laddZ (j) (((k : Nat) : Int)) d_rm_comes_48 rfl rfl ?_
        refine Ex_pV3 (v := .int (bI ((cAt P a (i + (q : Int)) (j + (k : Int))).isSome))) d_rm_comes_49 pk_rm_comes_204 (t_38 hs) (rm_has_s hs hP hQ ha (by omega) (by omega)) ?_
        refine Ex_if_eqB ((cAt P a (i + (q : Int)) (j + (k : Int))).isSome) 59 d_rm_comes_52 rfl rfl (fun hc52 => ?_) (fun hc52 => ?_)
        · refine Ex_iconst d_rm_comes_59 ic_0 ?_
          refine Ex_iaddN (cmN G P a i j q (k)) (0) d_rm_comes_60 rfl rfl ?_
          refine Ex_istore [some (.ref 38), some (.int (nI (a))), some (.int (J (i))), some (.int (J (j))), some (.int (nI (q))), some (.int (nI ((cmN G P a i j q (k)) + 0))), some (.int (nI (k)))] d_rm_comes_61 (Nat.le_of_ble_eq_true rfl) rfl ?_
          refine Ex_iincN (k) 1 [some (.ref 38), some (.int (nI (a))), some (.int (J (i))), some (.int (J (j))), some (.int (nI (q))), some (.int (nI ((cmN G P a i j q (k)) + 0))), some (.int (nI (k + 1)))] d_rm_comes_63 rfl rfl rfl rfl ?_
          refine Ex_goto 6 d_rm_comes_66 rfl ?_
          have z := ih (k + 1) (by omega)
          rw [show cmN G P a i j q (k + 1) = cmN G P a i j q k + 0 by
            show _ + _ = _
            unfold comeB
            first | (rw [hc32]; rfl) | (rw [hc52, Bool.and_false]; rfl)] at z
          exact z
        · refine Ex_iconst d_rm_comes_55 ic_1 ?_
          refine Ex_goto 60 d_rm_comes_56 rfl ?_
          refine Ex_iaddN (cmN G P a i j q (k)) (1) d_rm_comes_60 rfl rfl ?_
          refine Ex_istore [some (.ref 38), some (.int (nI (a))), some (.int (J (i))), some (.int (J (j))), some (.int (nI (q))), some (.int (nI ((cmN G P a i j q (k)) + 1))), some (.int (nI (k)))] d_rm_comes_61 (Nat.le_of_ble_eq_true rfl) rfl ?_
          refine Ex_iincN (k) 1 [some (.ref 38), some (.int (nI (a))), some (.int (J (i))), some (.int (J (j))), some (.int (nI (q))), some (.int (nI ((cmN G P a i j q (k)) + 1))), some (.int (nI (k + 1)))] d_rm_comes_63 rfl rfl rfl rfl ?_
          refine Ex_goto 6 d_rm_comes_66 rfl ?_
          have z := ih (k + 1) (by omega)
          rw [show cmN G P a i j q (k + 1) = cmN G P a i j q k + 1 by
            show _ + _ = _
            unfold comeB
            rw [hc32, hc52]
            rfl] at z
          exact z
theorem rm_comes_s {S : mj_S} {h : mj_H} (hs : HT h) {P : SP} (hP : PM P h) {n : Nat} (hQ : PO n P) {G : SG} (hG : GM G h) (hGO : GO n G) {a : Nat} (ha : a < pNp P) {i j : Int} (hi : -2147483648 ≤ i ∧ i < 2147483648) (hj : -2147483648 ≤ j ∧ j < 2147483648) {q : Nat} (hq : q < G.1) : Cl S rm_comes [.ref 38, .int (nI (a)), .int (J (i)), .int (J (j)), .int (nI (q))] h (Pu (.int (nI (cmN G P a i j q G.2.1))) h) := by
  show Ex S rm_comes 0 [some (.ref 38), some (.int (nI (a))), some (.int (J (i))), some (.int (J (j))), some (.int (nI (q))), none, none] [] h _
  refine Ex_iconst d_rm_comes_0 ic_0 ?_
  refine Ex_istore [some (.ref 38), some (.int (nI (a))), some (.int (J (i))), some (.int (J (j))), some (.int (nI (q))), some (.int (0)), none] d_rm_comes_1 (Nat.le_of_ble_eq_true rfl) rfl ?_
  refine Ex_iconst d_rm_comes_3 ic_0 ?_
  refine Ex_istore [some (.ref 38), some (.int (nI (a))), some (.int (J (i))), some (.int (J (j))), some (.int (nI (q))), some (.int (0)), some (.int (0))] d_rm_comes_4 (Nat.le_of_ble_eq_true rfl) rfl ?_
  refine rm_comes_L hs hP hQ hG hGO ha hi hj hq ?_ G.2.1 0 (by omega)
  refine Ex_iload d_rm_comes_69 rfl ?_
  refine Ex_ireturn d_rm_comes_71 rfl ?_
  exact ⟨rfl, rfl⟩
theorem rm_paste_L1 {S : mj_S} {Q : Option Value → mj_H → Prop} {h : mj_H} (hs : HT h) {P : SP} (hP : PM P h) {n : Nat} (hQ : PO n P) {G : SG} (hG : GM G h) (hGO : GO n G) {a : Nat} (ha : a < pNp P) {i j : Int} (hi : -2147483648 ≤ i ∧ i < 2147483648) (hj : -2147483648 ≤ j ∧ j < 2147483648)
    (kx : Ex S rm_paste 60 [some (.ref 38), some (.int (nI (a))), some (.int (J (i))), some (.int (J (j))), some (.int (nI (rwN G P a i j (G.1)))), some (.int (nI (G.1))), none, none, none] [] h Q) : ∀ d k : Nat, k + d = G.1 → Ex S rm_paste 23 [some (.ref 38), some (.int (nI (a))), some (.int (J (i))), some (.int (J (j))), some (.int (nI (rwN G P a i j (k)))), some (.int (nI (k))), none, none, none] [] h Q := by
  obtain ⟨hg1, hg2, hg3⟩ := GO_le hGO
  intro d
  induction d with
  | zero =>
    intro k hk
    obtain rfl : k = G.1 := by omega
    refine Ex_iload d_rm_paste_23 rfl ?_
    refine Ex_aload_n d_rm_paste_25 rfl ?_
    refine Ex_getIE d_rm_paste_26 pf_rm_221 rfl (t_38 hs) hG.1 ?_
    refine Ex_icmp_geN (G.1) (G.1) 60 d_rm_paste_29 rfl rfl rfl (by omega) (by omega) (fun hc29 => ?_) (fun hc29 => ?_)
    · exact kx
    · exfalso; omega
  | succ d ih =>
    intro k hk
    have hcl := rwN_le G P a i j k
    have hcm := cmN_le G P a i j k G.2.1
    refine Ex_iload d_rm_paste_23 rfl ?_
    refine Ex_aload_n d_rm_paste_25 rfl ?_
    refine Ex_getIE d_rm_paste_26 pf_rm_221 rfl (t_38 hs) hG.1 ?_
    refine Ex_icmp_geN (k) (G.1) 60 d_rm_paste_29 rfl rfl rfl (by omega) (by omega) (fun hc29 => ?_) (fun hc29 => ?_)
    · exfalso; omega
    · refine Ex_iload d_rm_paste_32 rfl ?_
      refine Ex_aload_n d_rm_paste_34 rfl ?_
      refine Ex_iload_n d_rm_paste_35 rfl ?_
      refine Ex_iload_n d_rm_paste_36 rfl ?_
      refine Ex_iload_n d_rm_paste_37 rfl ?_
      refine Ex_iload d_rm_paste_38 rfl ?_
      refine Ex_pV4 (v := .int (nI (cmN G P a i j k G.2.1))) d_rm_paste_40 pk_rm_paste_234 (t_38 hs) (rm_comes_s hs hP hQ hG hGO ha hi hj (by omega)) ?_
      refine Ex_if_leN (cmN G P a i j k G.2.1) 50 d_rm_paste_43 rfl rfl (by omega) (fun hc43 => ?_) (fun hc43 => ?_)
      · refine Ex_iconst d_rm_paste_50 ic_0 ?_
        refine Ex_iaddN (rwN G P a i j (k)) (0) d_rm_paste_51 rfl rfl ?_
        refine Ex_istore [some (.ref 38), some (.int (nI (a))), some (.int (J (i))), some (.int (J (j))), some (.int (nI ((rwN G P a i j (k)) + 0))), some (.int (nI (k))), none, none, none] d_rm_paste_52 (Nat.le_of_ble_eq_true rfl) rfl ?_
        refine Ex_iincN (k) 1 [some (.ref 38), some (.int (nI (a))), some (.int (J (i))), some (.int (J (j))), some (.int (nI ((rwN G P a i j (k)) + 0))), some (.int (nI (k + 1))), none, none, none] d_rm_paste_54 rfl rfl rfl rfl ?_
        refine Ex_goto 23 d_rm_paste_57 rfl ?_
        have z := ih (k + 1) (by omega)
        rw [show rwN G P a i j (k + 1) = rwN G P a i j k + 0 by
          show _ + _ = _
          rw [if_neg (by omega)]] at z
        exact z
      · refine Ex_iconst d_rm_paste_46 ic_1 ?_
        refine Ex_goto 51 d_rm_paste_47 rfl ?_
        refine Ex_iaddN (rwN G P a i j (k)) (1) d_rm_paste_51 rfl rfl ?_
        refine Ex_istore [some (.ref 38), some (.int (nI (a))), some (.int (J (i))), some (.int (J (j))), some (.int (nI ((rwN G P a i j (k)) + 1))), some (.int (nI (k))), none, none, none] d_rm_paste_52 (Nat.le_of_ble_eq_true rfl) rfl ?_
        refine Ex_iincN (k) 1 [some (.ref 38), some (.int (nI (a))), some (.int (J (i))), some (.int (J (j))), some (.int (nI ((rwN G P a i j (k)) + 1))), some (.int (nI (k + 1))), none, none, none] d_rm_paste_54 rfl rfl rfl rfl ?_
        refine Ex_goto 23 d_rm_paste_57 rfl ?_
        have z := ih (k + 1) (by omega)
        rw [show rwN G P a i j (k + 1) = rwN G P a i j k + 1 by
          show _ + _ = _
          rw [if_pos hc43]] at z
        exact z
theorem rm_paste_L3 {S : mj_S} {Q : Option Value → mj_H → Prop} {h : mj_H} (hs : HT h) {P : SP} {n : Nat} (hQ : PO n P) {G : SG} (hG : GM G h) (hGO : GO n G) {a t r : Nat} (ha : a < pNp P) {i j : Int} (hi : -2147483648 ≤ i ∧ i < 2147483648) (hj : -2147483648 ≤ j ∧ j < 2147483648) {q : Nat} (hq : q < G.1) (ht : t < (pPat P a).length) (hit : i + (q : Int) = (t : Int)) (hr : (pPat P a).getD t 0 = r) {x4 x5 : Int32} {x7 : Nat}
    (kx : ∀ h1 : mj_H, (Fr WRP h h1 ∧ PM (pB G q r j (G.2.1) P) h1) → Ex S rm_paste 226 [some (.ref 38), some (.int (nI (a))), some (.int (J (i))), some (.int (J (j))), some (.int (x4)), some (.int (x5)), some (.int (nI (q))), some (.int (nI (x7))), some (.int (nI (G.2.1)))] [] h1 Q) : ∀ d k : Nat, k + d = G.2.1 → ∀ h1 : mj_H, (Fr WRP h h1 ∧ PM (pB G q r j (k) P) h1) → Ex S rm_paste 140 [some (.ref 38), some (.int (nI (a))), some (.int (J (i))), some (.int (J (j))), some (.int (x4)), some (.int (x5)), some (.int (nI (q))), some (.int (nI (x7))), some (.int (nI (k)))] [] h1 Q := by
  obtain ⟨hg1, hg2, hg3⟩ := GO_le hGO
  intro d
  induction d with
  | zero =>
    intro k hk h1 hI
    obtain rfl : k = G.2.1 := by omega
    have f1 := hI.1
    have hs1 : HT h1 := f1.ht hs WRP_st
    have hG1 : GM G h1 := GM_fr hs f1 (by intro a k; unfold WGg WRP WRw WPa; omega) hG
    refine Ex_iload d_rm_paste_140 rfl ?_
    refine Ex_aload_n d_rm_paste_142 rfl ?_
    refine Ex_getIE d_rm_paste_143 pf_rm_224 rfl (t_38 hs1) hG1.2.1 ?_
    refine Ex_icmp_geN (G.2.1) (G.2.1) 226 d_rm_paste_146 rfl rfl rfl (by omega) (by omega) (fun hc146 => ?_) (fun hc146 => ?_)
    · exact kx h1 hI
    · exfalso; omega
  | succ d ih =>
    intro k hk h1 hI
    have f1 := hI.1
    have hs1 : HT h1 := f1.ht hs WRP_st
    have hG1 : GM G h1 := GM_fr hs f1 (by intro a k; unfold WGg WRP WRw WPa; omega) hG
    have hx := idx_lt hq (show k < G.2.1 by omega)
    obtain ⟨s1, s2, s3, s4, s5, s6⟩ := pB_sh G q r j k P
    have hQ1 := PO_B hGO.2 (r := r) (j := j) hq (b := k) (by omega) hQ
    have ha1 : a < pNp (pB G q r j k P) := by rw [s5]; exact ha
    have hca : cAt (pB G q r j k P) a (i + (q : Int)) (j + (k : Int)) = rAt (pB G q r j k P) r (j + (k : Int)) := by
      unfold cAt
      rw [s3, if_pos (by omega), hit, Int.toNat_natCast, hr]
    refine Ex_iload d_rm_paste_140 rfl ?_
    refine Ex_aload_n d_rm_paste_142 rfl ?_
    refine Ex_getIE d_rm_paste_143 pf_rm_224 rfl (t_38 hs1) hG1.2.1 ?_
    refine Ex_icmp_geN (k) (G.2.1) 226 d_rm_paste_146 rfl rfl rfl (by omega) (by omega) (fun hc146 => ?_) (fun hc146 => ?_)
    · exfalso; omega
    · refine Ex_aload_n d_rm_paste_149 rfl ?_
      refine Ex_getR d_rm_paste_150 pf_rm_58 rfl (t_38 hs1) (r_38_22 hs1) ?_
      refine Ex_iload d_rm_paste_153 rfl ?_
      refine Ex_aload_n d_rm_paste_155 rfl ?_
      refine Ex_getIE d_rm_paste_156 pf_rm_224 rfl (t_38 hs1) hG1.2.1 ?_
      refine Ex_imulN (q) (G.2.1) d_rm_paste_159 rfl rfl ?_
      refine Ex_iload d_rm_paste_160 rfl ?_
      refine Ex_iaddN (q * G.2.1) (k) d_rm_paste_162 rfl rfl ?_
      refine Ex_baloadN (a := (q * G.2.1) + k) d_rm_paste_163 (t_54 hs1) rfl (by omega) (by decide) (hG1.2.2 _ hx).1 ?_
      refine Ex_if_eqB ((G.2.2 (q * G.2.1 + k)).isSome) 220 d_rm_paste_164 rfl rfl (fun hc164 => ?_) (fun hc164 => ?_)
      · refine Ex_iincN (k) 1 [some (.ref 38), some (.int (nI (a))), some (.int (J (i))), some (.int (J (j))), some (.int (x4)), some (.int (x5)), some (.int (nI (q))), some (.int (nI (x7))), some (.int (nI (k + 1)))] d_rm_paste_220 rfl rfl rfl rfl ?_
        refine Ex_goto 140 d_rm_paste_223 rfl ?_
        refine ih (k + 1) (by omega) _ ⟨f1, ?_⟩
        rw [show pB G q r j (k + 1) P = pB G q r j k P from if_neg (by rintro ⟨z1, z2⟩; first | exact absurd (z1.symm.trans hc164) (by decide) | exact absurd (z2.symm.trans hc184) (by decide))]
        exact hI.2
      · refine Ex_aload_n d_rm_paste_167 rfl ?_
        refine Ex_iload_n d_rm_paste_168 rfl ?_
        refine Ex_iload_n d_rm_paste_169 rfl ?_
        refine Ex_i2lZ (i) d_rm_paste_170 rfl (by omega) ?_
        refine Ex_iload d_rm_paste_171 rfl ?_
        refine Ex_i2lZ (((q : Nat) : Int)) d_rm_paste_173 (nIJ _) (by omega) ?_
        refine Ex_laddZ (i) (((q : Nat) : Int)) d_rm_paste_174 rfl rfl ?_
        refine Ex_iload_n d_rm_paste_175 rfl ?_
        refine Ex_i2lZ (j) d_rm_paste_176 rfl (by omega) ?_
        refine Ex_iload d_rm_paste_177 rfl ?_
        refine Ex_i2lZ (((k : Nat) : Int)) d_rm_paste_179 (nIJ _) (by omega) ?_
        refine Ex_laddZ (j) (((k : Nat) : Int)) d_rm_paste_180 rfl rfl ?_
        refine Ex_pV3 (v := .int (bI ((rAt (pB G q r j k P) r (j + (k : Int))).isSome))) d_rm_paste_181 pk_rm_paste_204 (t_38 hs1) (by rw [← hca]; exact rm_has_s hs1 hI.2 hQ1 ha1 (by omega) (by omega)) ?_
        refine Ex_if_eqB ((rAt (pB G q r j k P) r (j + (k : Int))).isSome) 220 d_rm_paste_184 rfl rfl (fun hc184 => ?_) (fun hc184 => ?_)
        · refine Ex_iincN (k) 1 [some (.ref 38), some (.int (nI (a))), some (.int (J (i))), some (.int (J (j))), some (.int (x4)), some (.int (x5)), some (.int (nI (q))), some (.int (nI (x7))), some (.int (nI (k + 1)))] d_rm_paste_220 rfl rfl rfl rfl ?_
          refine Ex_goto 140 d_rm_paste_223 rfl ?_
          refine ih (k + 1) (by omega) _ ⟨f1, ?_⟩
          rw [show pB G q r j (k + 1) P = pB G q r j k P from if_neg (by rintro ⟨z1, z2⟩; first | exact absurd (z1.symm.trans hc164) (by decide) | exact absurd (z2.symm.trans hc184) (by decide))]
          exact hI.2
        · obtain ⟨c0, hc0⟩ := Option.isSome_iff_exists.mp hc184
          have hin : pO P r ≤ j + (k : Int) ∧ j + (k : Int) < pO P r + pL P r := by
            by_cases z : pO P r ≤ j + (k : Int) ∧ j + (k : Int) < pO P r + pL P r
            · exact z
            · unfold rAt at hc0
              rw [s1, s2, if_neg z] at hc0
              cases hc0
          have hpl : Cl S rm_placeOf [.ref 38, .int (nI a), .int (nI t), .int (J (j + (k : Int)))] h1 (Pu (.int (nI (60 * r + (j + (k : Int) - pO P r).toNat))) h1) := by
            have z := rm_placeOf_s (S := S) hs1 hI.2 hQ1 (p := a) (i := t) ha1 (by rw [s3]; exact ht) (j := j + (k : Int)) (by rw [s3, s2, s1, hr]; exact hin)
            rw [s3, s2, hr] at z
            exact z
          have hrm := PO_row hQ ha ht
          rw [hr] at hrm
          have hrb := hQ.2.1 _ hrm
          have hmd6 : pMd P ≤ 6000 := hQ.1
          refine Ex_aload_n d_rm_paste_187 rfl ?_
          refine Ex_getR d_rm_paste_188 pf_rm_34 rfl (t_38 hs1) (r_38_8 hs1) ?_
          refine Ex_aload_n d_rm_paste_191 rfl ?_
          refine Ex_iload_n d_rm_paste_192 rfl ?_
          refine Ex_iload_n d_rm_paste_193 rfl ?_
          refine Ex_iload d_rm_paste_194 rfl ?_
          refine Ex_iaddZ (i) (((q : Nat) : Int)) d_rm_paste_196 rfl (nIJ _) ?_
          rw [show ((J (i + (((q : Nat) : Int)))) : Int32) = (nI (t)) from (by rw [hit, ← nIJ])]
          refine Ex_iload_n d_rm_paste_197 rfl ?_
          refine Ex_iload d_rm_paste_198 rfl ?_
          refine Ex_iaddZ (j) (((k : Nat) : Int)) d_rm_paste_200 rfl (nIJ _) ?_
          refine Ex_pV3 (v := .int (nI (60 * r + (j + (k : Int) - pO P r).toNat))) d_rm_paste_201 pk_rm_paste_178 (t_38 hs1) hpl ?_
          refine Ex_aload_n d_rm_paste_204 rfl ?_
          refine Ex_getR d_rm_paste_205 pf_rm_52 rfl (t_38 hs1) (r_38_20 hs1) ?_
          refine Ex_iload d_rm_paste_208 rfl ?_
          refine Ex_aload_n d_rm_paste_210 rfl ?_
          refine Ex_getIE d_rm_paste_211 pf_rm_224 rfl (t_38 hs1) hG1.2.1 ?_
          refine Ex_imulN (q) (G.2.1) d_rm_paste_214 rfl rfl ?_
          refine Ex_iload d_rm_paste_215 rfl ?_
          refine Ex_iaddN (q * G.2.1) (k) d_rm_paste_217 rfl rfl ?_
          refine Ex_ialoadN (a := (q * G.2.1) + k) d_rm_paste_218 (t_52 hs1) rfl (by omega) (by decide) (hG1.2.2 _ hx).2 ?_
          refine Ex_iastoreN (a := 60 * r + (j + (k : Int) - pO P r).toNat) d_rm_paste_219 (t_46 hs1) rfl (by omega) (by decide) ?_
          refine Ex_iincN (k) 1 [some (.ref 38), some (.int (nI (a))), some (.int (J (i))), some (.int (J (j))), some (.int (x4)), some (.int (x5)), some (.int (nI (q))), some (.int (nI (x7))), some (.int (nI (k + 1)))] d_rm_paste_220 rfl rfl rfl rfl ?_
          refine Ex_goto 140 d_rm_paste_223 rfl ?_
          refine ih (k + 1) (by omega) _ ⟨Fr.sI f1 (by unfold WRP WRw; omega), ?_⟩
          rw [show pB G q r j (k + 1) P = uCell (pB G q r j k P) r (j + (k : Int) - pO P r).toNat ((G.2.2 (q * G.2.1 + k)).getD none) from if_pos ⟨hc164, hc184⟩]
          exact PM_uCell hs1 hQ1 hI.2 (by rw [s4]; exact hrm) (by rw [s1]; omega)
theorem rm_paste_L2 {S : mj_S} {Q : Option Value → mj_H → Prop} {h : mj_H} (hs : HT h) {P : SP} {n : Nat} (hQ : PO n P) {G : SG} (hG : GM G h) (hGO : GO n G) {a : Nat} (ha : a < pNp P) {i j : Int} (hi : -2147483648 ≤ i ∧ i < 2147483648) (hj : -2147483648 ≤ j ∧ j < 2147483648) (hm : pMd P + rwN G P a i j G.1 ≤ 6000) {x4 : Int32}
    (kx : ∀ h1 : mj_H, (Fr WRP h h1 ∧ PM (pA G a i j (G.1) P) h1) → Ex S rm_paste 232 [some (.ref 38), some (.int (nI (a))), some (.int (J (i))), some (.int (J (j))), some (.int (x4)), some (.int (nI (smN G P a i j (G.1)))), some (.int (nI (G.1))), none, none] [] h1 Q) : ∀ d k : Nat, k + d = G.1 → ∀ h1 : mj_H, (Fr WRP h h1 ∧ PM (pA G a i j (k) P) h1) → Ex S rm_paste 93 [some (.ref 38), some (.int (nI (a))), some (.int (J (i))), some (.int (J (j))), some (.int (x4)), some (.int (nI (smN G P a i j (k)))), some (.int (nI (k))), none, none] [] h1 Q := by
  obtain ⟨hg1, hg2, hg3⟩ := GO_le hGO
  intro d
  induction d with
  | zero =>
    intro k hk h1 hI
    obtain rfl : k = G.1 := by omega
    have f1 := hI.1
    have hs1 : HT h1 := f1.ht hs WRP_st
    have hG1 : GM G h1 := GM_fr hs f1 (by intro a k; unfold WGg WRP WRw WPa; omega) hG
    refine Ex_iload d_rm_paste_93 rfl ?_
    refine Ex_aload_n d_rm_paste_95 rfl ?_
    refine Ex_getIE d_rm_paste_96 pf_rm_221 rfl (t_38 hs1) hG1.1 ?_
    refine Ex_icmp_geN (G.1) (G.1) 232 d_rm_paste_99 rfl rfl rfl (by omega) (by omega) (fun hc99 => ?_) (fun hc99 => ?_)
    · exact kx h1 hI
    · exfalso; omega
  | succ d ih =>
    intro k hk h1 hI
    have f1 := hI.1
    have hs1 : HT h1 := f1.ht hs WRP_st
    have hG1 : GM G h1 := GM_fr hs f1 (by intro a k; unfold WGg WRP WRw WPa; omega) hG
    have hsl := smN_le G P a i j hg2 k
    have hcm := cmN_le G P a i j k G.2.1
    obtain ⟨q1, q2, q3, q4, q5⟩ := pA_ok hGO.2 hQ ha (i := i) (j := j) k (by omega) (by have := rwN_mono G P a i j k (G.1 - k); rw [show k + (G.1 - k) = G.1 by omega] at this; omega)
    refine Ex_iload d_rm_paste_93 rfl ?_
    refine Ex_aload_n d_rm_paste_95 rfl ?_
    refine Ex_getIE d_rm_paste_96 pf_rm_221 rfl (t_38 hs1) hG1.1 ?_
    refine Ex_icmp_geN (k) (G.1) 232 d_rm_paste_99 rfl rfl rfl (by omega) (by omega) (fun hc99 => ?_) (fun hc99 => ?_)
    · exfalso; omega
    · refine Ex_aload_n d_rm_paste_102 rfl ?_
      refine Ex_iload_n d_rm_paste_103 rfl ?_
      refine Ex_iload_n d_rm_paste_104 rfl ?_
      refine Ex_iload_n d_rm_paste_105 rfl ?_
      refine Ex_iload d_rm_paste_106 rfl ?_
      refine Ex_pV4 (v := .int (nI (cmN G P a i j k G.2.1))) d_rm_paste_108 pk_rm_paste_234 (t_38 hs1) (by rw [← q2.cm]; exact rm_comes_s hs1 hI.2 q1 hG1 hGO (by omega) hi hj (by omega)) ?_
      refine Ex_istore [some (.ref 38), some (.int (nI (a))), some (.int (J (i))), some (.int (J (j))), some (.int (x4)), some (.int (nI (smN G P a i j (k)))), some (.int (nI (k))), some (.int (nI (cmN G P a i j k G.2.1))), none] d_rm_paste_111 (Nat.le_of_ble_eq_true rfl) rfl ?_
      refine Ex_iload d_rm_paste_113 rfl ?_
      refine Ex_if_neN (cmN G P a i j k G.2.1) 121 d_rm_paste_115 rfl rfl (by omega) (fun hc115 => ?_) (fun hc115 => ?_)
      · have hcm0 : 0 < cmN G P a i j k G.2.1 := by omega
        have hin := cm_in hcm0
        have hmk : pMd P + rwN G P a i j (k + 1) ≤ 6000 := by have := rwN_mono G P a i j (k + 1) (G.1 - (k + 1)); rw [show k + 1 + (G.1 - (k + 1)) = G.1 by omega] at this; omega
        have hmk1 : rwN G P a i j (k + 1) = rwN G P a i j k + 1 := by show _ + _ = _; rw [if_pos hcm0]
        have hlk := q2.1
        refine Ex_iload d_rm_paste_121 rfl ?_
        refine Ex_iload d_rm_paste_123 rfl ?_
        refine Ex_iaddN (smN G P a i j (k)) (cmN G P a i j k G.2.1) d_rm_paste_125 rfl rfl ?_
        refine Ex_istore [some (.ref 38), some (.int (nI (a))), some (.int (J (i))), some (.int (J (j))), some (.int (x4)), some (.int (nI ((smN G P a i j (k)) + (cmN G P a i j k G.2.1)))), some (.int (nI (k))), some (.int (nI (cmN G P a i j k G.2.1))), none] d_rm_paste_126 (Nat.le_of_ble_eq_true rfl) rfl ?_
        refine Ex_aload_n d_rm_paste_128 rfl ?_
        refine Ex_iload_n d_rm_paste_129 rfl ?_
        refine Ex_iload_n d_rm_paste_130 rfl ?_
        refine Ex_iload d_rm_paste_131 rfl ?_
        refine Ex_iaddZ (i) (((k : Nat) : Int)) d_rm_paste_133 rfl (nIJ _) ?_
        rw [show ((J (i + (((k : Nat) : Int)))) : Int32) = (nI ((i + (k : Int)).toNat)) from (J_pos (by omega))]
        refine Ex_cV2 d_rm_paste_134 pk_rm_paste_201 (t_38 hs1) (rm_own_s hs1 hI.2.1 hI.2.2.1 q1 (show a < pNp (pA G a i j k P) by omega) (show (i + (k : Int)).toNat < (pPat (pA G a i j k P) a).length by omega) (by omega)) ?_
        rintro rv h2 ⟨rfl, hRw2, hPa2, f2⟩
        have f2 : Fr WRP h1 h2 := f2
        have hs2 : HT h2 := f2.ht hs1 WRP_st
        have hH2 : HiM (pA G a i j k P) h2 := HiM_fr hs1 f2 (by intro a k; unfold WHi WRP WRw WPa; omega) hI.2.2.2
        have hG2 : GM G h2 := GM_fr hs1 f2 (by intro a k; unfold WGg WRP WRw WPa; omega) hG1
        have hQ2 := PO_own q1 (show a < pNp (pA G a i j k P) by omega) (show (i + (k : Int)).toNat < (pPat (pA G a i j k P) a).length by omega) (by omega)
        show Ex S rm_paste 137 [some (.ref 38), some (.int (nI (a))), some (.int (J (i))), some (.int (J (j))), some (.int (x4)), some (.int (nI ((smN G P a i j (k)) + (cmN G P a i j k G.2.1)))), some (.int (nI (k))), some (.int (nI (cmN G P a i j k G.2.1))), none] [] h2 _
        refine Ex_iconst d_rm_paste_137 ic_0 ?_
        refine Ex_istore [some (.ref 38), some (.int (nI (a))), some (.int (J (i))), some (.int (J (j))), some (.int (x4)), some (.int (nI ((smN G P a i j (k)) + (cmN G P a i j k G.2.1)))), some (.int (nI (k))), some (.int (nI (cmN G P a i j k G.2.1))), some (.int (0))] d_rm_paste_138 (Nat.le_of_ble_eq_true rfl) rfl ?_
        refine rm_paste_L3 hs2 hQ2 hG2 hGO (t := (i + (k : Int)).toNat) (r := pMd (pA G a i j k P)) (show a < pNp (pA G a i j k P) by omega) hi hj (show k < G.1 by omega) (by rw [own_len]; omega) (by omega) (own_row (by omega)) (fun h3 hI3 => ?_) G.2.1 0 (by omega) h2 ⟨Fr.rf, ⟨hRw2, hPa2, hH2⟩⟩
        refine Ex_iincN (k) 1 [some (.ref 38), some (.int (nI (a))), some (.int (J (i))), some (.int (J (j))), some (.int (x4)), some (.int (nI (smN G P a i j k + cmN G P a i j k G.2.1))), some (.int (nI (k + 1))), some (.int (nI (cmN G P a i j k G.2.1))), some (.int (nI (G.2.1)))] d_rm_paste_226 rfl rfl rfl rfl ?_
        refine Ex_goto 93 d_rm_paste_229 rfl ?_
        refine Ex_forget (ls' := [some (.ref 38), some (.int (nI (a))), some (.int (J (i))), some (.int (J (j))), some (.int (x4)), some (.int (nI (smN G P a i j k + cmN G P a i j k G.2.1))), some (.int (nI (k + 1))), none, none]) (sub_s (sub_s (sub_s (sub_s (sub_s (sub_s (sub_s (sub_n (sub_n sub_0))))))))) ?_
        have z := ih (k + 1) (by omega)
        rw [show smN G P a i j (k + 1) = smN G P a i j k + cmN G P a i j k G.2.1 from rfl] at z
        refine z h3 ⟨(f1.tr f2).tr hI3.1, ?_⟩
        rw [show pA G a i j (k + 1) P = _ from if_pos hcm0]
        exact hI3.2
      · refine Ex_goto 226 d_rm_paste_118 rfl ?_
        refine Ex_iincN (k) 1 [some (.ref 38), some (.int (nI (a))), some (.int (J (i))), some (.int (J (j))), some (.int (x4)), some (.int (nI (smN G P a i j (k)))), some (.int (nI (k + 1))), some (.int (nI (cmN G P a i j k G.2.1))), none] d_rm_paste_226 rfl rfl rfl rfl ?_
        refine Ex_goto 93 d_rm_paste_229 rfl ?_
        refine Ex_forget (ls' := [some (.ref 38), some (.int (nI (a))), some (.int (J (i))), some (.int (J (j))), some (.int (x4)), some (.int (nI (smN G P a i j (k)))), some (.int (nI (k + 1))), none, none]) (sub_s (sub_s (sub_s (sub_s (sub_s (sub_s (sub_s (sub_n (sub_n sub_0))))))))) ?_
        have z := ih (k + 1) (by omega)
        rw [show smN G P a i j (k + 1) = smN G P a i j k from by show _ + _ = _; omega] at z
        refine z h1 ⟨f1, ?_⟩
        rw [show pA G a i j (k + 1) P = pA G a i j k P from if_neg (by omega)]
        exact hI.2
theorem rm_paste_s {S : mj_S} {h : mj_H} (hs : HT h) {P : SP} (hP : PM P h) {n : Nat} (hQ : PO n P) {G : SG} (hG : GM G h) (hGO : GO n G) {p i j : Int} (hp : -2147483648 ≤ p ∧ p < 2147483648) (hi : -2147483648 ≤ i ∧ i < 2147483648) (hj : -2147483648 ≤ j ∧ j < 2147483648) : Cl S rm_paste [.ref 38, .int (J (p)), .int (J (i)), .int (J (j))] h (AnsN (okPs G P p i j) (smN G P p.toNat i j G.1) (PM (psP G P p i j)) WPM h) := by
  show Ex S rm_paste 0 [some (.ref 38), some (.int (J (p))), some (.int (J (i))), some (.int (J (j))), none, none, none, none, none] [] h _
  obtain ⟨hg1, hg2, hg3⟩ := GO_le hGO
  have hmd : pMd P ≤ 6000 := hQ.1
  refine Ex_aload_n d_rm_paste_0 rfl ?_
  refine Ex_iload_n d_rm_paste_1 rfl ?_
  refine Ex_pV1 (v := .int (bI (decide (0 ≤ p ∧ p < pNp P)))) d_rm_paste_2 pk_rm_paste_187 (t_38 hs) (rm_isPattern_s hs hP.2.1 hQ.2.2.1 hp) ?_
  refine Ex_if_eqB (decide (0 ≤ p ∧ p < pNp P)) 15 d_rm_paste_5 rfl rfl (fun hc5 => ?_) (fun hc5 => ?_)
  · rw [decide_eq_false_iff_not] at hc5
    refine Ex_iconst d_rm_paste_15 ic_m1 ?_
    refine Ex_ireturn d_rm_paste_16 rfl ?_
    exact Or.inl ⟨by unfold okPs; (try simp only [Int.toNat_natCast]); omega, rfl, rfl⟩
  · rw [decide_eq_true_eq] at hc5
    refine Ex_aload_n d_rm_paste_8 rfl ?_
    refine Ex_getIE d_rm_paste_9 pf_rm_221 rfl (t_38 hs) hG.1 ?_
    refine Ex_if_neN (G.1) 17 d_rm_paste_12 rfl rfl (by omega) (fun hc12 => ?_) (fun hc12 => ?_)
    · obtain ⟨a, rfl⟩ : ∃ a : Nat, p = (a : Int) := ⟨p.toNat, by omega⟩
      simp only [← nIJ]
      have hsl := smN_le G P a i j hg2 G.1
      have hrl := rwN_le G P a i j G.1
      have hrs := rw_sm G P a i j G.1
      refine Ex_iconst d_rm_paste_17 ic_0 ?_
      refine Ex_istore [some (.ref 38), some (.int (nI (a))), some (.int (J (i))), some (.int (J (j))), some (.int (0)), none, none, none, none] d_rm_paste_18 (Nat.le_of_ble_eq_true rfl) rfl ?_
      refine Ex_iconst d_rm_paste_20 ic_0 ?_
      refine Ex_istore [some (.ref 38), some (.int (nI (a))), some (.int (J (i))), some (.int (J (j))), some (.int (0)), some (.int (0)), none, none, none] d_rm_paste_21 (Nat.le_of_ble_eq_true rfl) rfl ?_
      refine rm_paste_L1 hs hP hQ hG hGO (show a < pNp P by omega) hi hj ?_ G.1 0 (by omega)
      refine Ex_iload d_rm_paste_60 rfl ?_
      refine Ex_if_neN (rwN G P a i j (G.1)) 67 d_rm_paste_62 rfl rfl (by omega) (fun hc62 => ?_) (fun hc62 => ?_)
      · refine Ex_iload d_rm_paste_67 rfl ?_
        refine Ex_sipush d_rm_paste_69 sp_6000 ?_
        refine Ex_aload_n d_rm_paste_72 rfl ?_
        refine Ex_getIE d_rm_paste_73 pf_rm_172 rfl (t_38 hs) hP.1.1 ?_
        refine Ex_isubN (6000) (pMd P) d_rm_paste_76 rfl rfl (by omega) ?_
        refine Ex_icmp_leN (rwN G P a i j (G.1)) (6000 - (pMd P)) 82 d_rm_paste_77 rfl rfl rfl (by omega) (by omega) (fun hc77 => ?_) (fun hc77 => ?_)
        · refine Ex_aload_n d_rm_paste_82 rfl ?_
          refine Ex_iload_n d_rm_paste_83 rfl ?_
          refine Ex_cV1 d_rm_paste_84 pk_rm_paste_190 (t_38 hs) (rm_keep_s hs hP hQ (show a < pNp P by omega)) ?_
          rintro rv h1 ⟨rfl, hH1, f1⟩
          have hs1 : HT h1 := f1.ht hs WHi_st
          have hP1 : PM (keepP P a) h1 := ⟨RwM_fr (P := keepP P a) hs f1 (by intro a k; unfold WRw WHi; omega) hP.1, PaM_fr (P := keepP P a) hs f1 (by intro a k; unfold WPa WHi; omega) hP.2.1, hH1⟩
          have hG1 : GM G h1 := GM_fr hs f1 (by intro a k; unfold WGg WHi; omega) hG
          show Ex S rm_paste 87 [some (.ref 38), some (.int (nI (a))), some (.int (J (i))), some (.int (J (j))), some (.int (nI (rwN G P a i j (G.1)))), some (.int (nI (G.1))), none, none, none] [] h1 _
          refine Ex_iconst d_rm_paste_87 ic_0 ?_
          refine Ex_istore [some (.ref 38), some (.int (nI (a))), some (.int (J (i))), some (.int (J (j))), some (.int (nI (rwN G P a i j (G.1)))), some (.int (0)), none, none, none] d_rm_paste_88 (Nat.le_of_ble_eq_true rfl) rfl ?_
          refine Ex_iconst d_rm_paste_90 ic_0 ?_
          refine Ex_istore [some (.ref 38), some (.int (nI (a))), some (.int (J (i))), some (.int (J (j))), some (.int (nI (rwN G P a i j (G.1)))), some (.int (0)), some (.int (0)), none, none] d_rm_paste_91 (Nat.le_of_ble_eq_true rfl) rfl ?_
          refine Ex_forget (ls' := [some (.ref 38), some (.int (nI (a))), some (.int (J (i))), some (.int (J (j))), some (.int (nI (rwN G P a i j (G.1)))), some (.int (0)), some (.int (0)), none, none]) (sub_s (sub_s (sub_s (sub_s (sub_s (sub_s (sub_s (sub_n (sub_n sub_0))))))))) (rm_paste_L2 hs1 (PO_keep hQ (show a < pNp P by omega)) hG1 hGO (show a < pNp P by omega) hi hj (by rw [ShE_keep.rw]; show pMd P + rwN G P a i j G.1 ≤ 6000; omega) (fun h2 hI2 => ?_) G.1 0 (by omega) h1 ⟨Fr.rf, hP1⟩)
          refine Ex_iload d_rm_paste_232 rfl ?_
          refine Ex_ireturn d_rm_paste_234 rfl ?_
          refine Or.inr ⟨⟨by omega, by omega, by omega, by rw [Int.toNat_natCast]; omega⟩, by rw [Int.toNat_natCast, ShE_keep.sm], ?_, ?_⟩
          · unfold psP
            rw [Int.toNat_natCast, if_pos (by omega)]
            exact hI2.2
          · refine (f1.mono ?_).tr (hI2.1.mono ?_)
            · intro a k; unfold WHi WPM; omega
            · intro a k; unfold WRP WRw WPa WPM; omega
        · refine Ex_iconst d_rm_paste_80 ic_m1 ?_
          refine Ex_ireturn d_rm_paste_81 rfl ?_
          exact Or.inl ⟨by unfold okPs; (try simp only [Int.toNat_natCast]); omega, rfl, rfl⟩
      · refine Ex_iconst d_rm_paste_65 ic_0 ?_
        refine Ex_ireturn d_rm_paste_66 rfl ?_
        refine Or.inr ⟨⟨by omega, by omega, by omega, by rw [Int.toNat_natCast]; omega⟩, ?_, ?_, Fr.rf⟩
        · rw [Int.toNat_natCast, hrs.mp hc62]; rfl
        · unfold psP
          rw [Int.toNat_natCast, if_neg (by omega)]
          exact hP
    · refine Ex_iconst d_rm_paste_15 ic_m1 ?_
      refine Ex_ireturn d_rm_paste_16 rfl ?_
      exact Or.inl ⟨by unfold okPs; (try simp only [Int.toNat_natCast]); omega, rfl, rfl⟩
