/-! SEEN; the reference: count, fits, period. -/
abbrev lp (P : SP) (p : Nat) : LV := lv0 P (pPat P p)
def ckB (z : Int) (c : Tl) : Bool := match c with
  | none => decide (z = -1)
  | some (k, _, _) => decide ((k : Int) = z)
def cRow (L : LV) (z : Int) (i : Nat) : Nat → Nat
  | 0 => 0
  | k + 1 => cRow L z i k + (if ckB z (gX L i k) = true then 1 else 0)
def cAll (L : LV) (z : Int) : Nat → Nat
  | 0 => 0
  | i + 1 => cAll L z i + cRow L z i (gL L i)
theorem cRow_le (L : LV) (z : Int) (i : Nat) : ∀ k, cRow L z i k ≤ k
  | 0 => Nat.le_refl _
  | k + 1 => by
    have := cRow_le L z i k
    unfold cRow
    split <;> omega
theorem cAll_le {n : Nat} {L : LV} (hL : LO n L) (z : Int) : ∀ i, i ≤ gN L → cAll L z i ≤ 60 * i
  | 0, _ => Nat.le_refl _
  | i + 1, hi => by
    have := cAll_le hL z i (by omega)
    have := cRow_le L z i (gL L i)
    have := (hL.2 i (by omega)).1
    unfold cAll
    omega
abbrev okCt (K : SK) (P : SP) (p k : Int) : Prop := 0 ≤ p ∧ p < pNp P ∧ (k = -1 ∨ (0 ≤ k ∧ k < K.1))
def countS (K : SK) (P : SP) (p k : Int) : Int := if okCt K P p k then (cAll (lp P p.toNat) k (pPat P p.toNat).length : Int) else -1
def first (f : Nat → Option Int) : Nat → Nat → Option Int
  | 0, _ => none
  | e + 1, k => match f k with
    | some v => some v
    | none => first f e (k + 1)
theorem first_s {f : Nat → Option Int} {k : Nat} {v : Int} (h : f k = some v) (e : Nat) : first f (e + 1) k = some v := by
  show (match f k with
    | some v => some v
    | none => first f e (k + 1)) = _
  rw [h]
theorem first_n {f : Nat → Option Int} {k : Nat} (h : f k = none) (e : Nat) : first f (e + 1) k = first f e (k + 1) := by
  show (match f k with
    | some v => some v
    | none => first f e (k + 1)) = _
  rw [h]
def sumL (L : LV) : Nat → Nat
  | 0 => 0
  | i + 1 => sumL L i + gL L i
theorem sumL_le {n : Nat} {L : LV} (hL : LO n L) : ∀ i, i ≤ gN L → sumL L i ≤ 60 * i
  | 0, _ => Nat.le_refl _
  | i + 1, hi => by
    have := sumL_le hL i (by omega)
    have := (hL.2 i (by omega)).1
    unfold sumL
    omega
def fRt (K : SK) (P : SP) (p i k : Nat) : Bool := fitA K (some (gX (lp P p) i k)) (cAt P p (i : Int) (gO (lp P p) i + (k : Int) + 1)) 1
def fBw (K : SK) (P : SP) (p i k : Nat) : Bool := fitA K (some (gX (lp P p) i k)) (cAt P p ((i : Int) + 1) (gO (lp P p) i + (k : Int))) 2
def fCell (K : SK) (P : SP) (p i k : Nat) : Option Int := if fRt K P p i k = true ∧ fBw K P p i k = true then none else some (1 + 2 * ((sumL (lp P p) i + k : Nat) : Int) + (if fRt K P p i k = true then 1 else 0))
def fRow (K : SK) (P : SP) (p i : Nat) : Option Int := first (fCell K P p i) (gL (lp P p) i) 0
def fitsS (K : SK) (P : SP) (p : Int) : Int := if 0 ≤ p ∧ p < pNp P then (first (fRow K P p.toNat) (pPat P p.toNat).length 0).getD 0 else -1
def cgP (P : SP) (p d o : Nat) : Prop := ∀ i, i < (pPat P p).length → ∀ k, k < gL (lp P p) i → cAt P p ((i : Int) + (d : Int)) (gO (lp P p) i + (k : Int) + (o : Int)) = none ∨ cAt P p ((i : Int) + (d : Int)) (gO (lp P p) i + (k : Int) + (o : Int)) = some (gX (lp P p) i k)
def cgA (P : SP) (p : Nat) (w : Int) (a : Nat) : Prop := cgP P p (if w = 0 then a else 0) (if w = 0 then 0 else a)
def perS (P : SP) (p w v : Int) : Prop := if 0 ≤ p ∧ p < pNp P ∧ 0 ≤ w ∧ w ≤ 1 then ∃ n : Nat, v = (n : Int) ∧ 1 ≤ n ∧ n ≤ 60 ∧ cgA P p.toNat w n ∧ ∀ a, 1 ≤ a → a < n → ¬ cgA P p.toNat w a else v = -1
theorem perS_u {P : SP} {p w v v' : Int} (h : perS P p w v) (h' : perS P p w v') : v = v' := by
  unfold perS at h h'
  split at h
  · rename_i hc
    rw [if_pos hc] at h'
    obtain ⟨n, rfl, h1, h2, h3, h4⟩ := h
    obtain ⟨m, rfl, g1, g2, g3, g4⟩ := h'
    rcases Nat.lt_trichotomy n m with z | z | z
    · exact absurd h3 (g4 n h1 z)
    · rw [z]
    · exact absurd g3 (h4 m g1 z)
  · rename_i hc
    rw [if_neg hc] at h'
    omega
theorem cg60 {n : Nat} {P : SP} (hQ : PO n P) {p : Nat} (hp : p < pNp P) (w : Int) : cgA P p w 60 := by
  intro i hi k hk
  left
  have hl := (hQ.2.2.2.1 p hp).1
  have hr := PO_row hQ hp hi
  have hro := hQ.2.1 _ hr
  have hk : k < pL P ((pPat P p).getD i 0) := hk
  unfold cAt
  by_cases hw : w = 0
  · rw [if_pos hw]
    rw [if_neg (by omega)]
  · rw [if_neg hw, if_neg hw, if_pos (by omega)]
    rw [show ((i : Int) + ((0 : Nat) : Int)).toNat = i by omega]
    unfold rAt
    rw [if_neg]
    show ¬ (pO P ((pPat P p).getD i 0) ≤ pO P ((pPat P p).getD i 0) + (k : Int) + ((60 : Nat) : Int) ∧ pO P ((pPat P p).getD i 0) + (k : Int) + ((60 : Nat) : Int) < pO P ((pPat P p).getD i 0) + pL P ((pPat P p).getD i 0))
    omega
theorem cell_at {n : Nat} {P : SP} (hQ : PO n P) {p i k : Nat} (hp : p < pNp P) (hi : i < (pPat P p).length) (hk : k < gL (lp P p) i) : cAt P p (i : Int) (gO (lp P p) i + (k : Int)) = some (gX (lp P p) i k) := by
  have hk : k < pL P ((pPat P p).getD i 0) := hk
  unfold cAt
  rw [if_pos (by omega), Int.toNat_natCast]
  unfold rAt
  show (if pO P ((pPat P p).getD i 0) ≤ pO P ((pPat P p).getD i 0) + (k : Int) ∧ pO P ((pPat P p).getD i 0) + (k : Int) < pO P ((pPat P p).getD i 0) + pL P ((pPat P p).getD i 0) then some (pC P ((pPat P p).getD i 0) (pO P ((pPat P p).getD i 0) + (k : Int) - pO P ((pPat P p).getD i 0)).toNat) else none) = _
  rw [if_pos (by omega), show (pO P ((pPat P p).getD i 0) + (k : Int) - pO P ((pPat P p).getD i 0)).toNat = k by omega]
  rfl
theorem rm_count_L1 {S : mj_S} {Q : Option Value → mj_H → Prop} {h : mj_H} (hs : HT h) {K : SK} (hK : KM K h) (hO : KO K) {P : SP} (hP : PM P h) (hQ : PO K.1 P) {p : Nat} (hp : p < pNp P) {z : Int} (hz : -1 ≤ z ∧ z < 40) {i : Nat} (hi : i < (pPat P p).length)
    (kx : Ex S rm_count 119 [some (.ref 38), some (.int (nI (p))), some (.int (J (z))), some (.int (nI (cAll (lp P p) z i + cRow (lp P p) z i (gL (lp P p) i)))), some (.int (nI (i))), some (.int (nI ((pPat P p).getD i 0))), some (.int (nI (gL (lp P p) i))), none] [] h Q) : ∀ d k : Nat, k + d = gL (lp P p) i → Ex S rm_count 51 [some (.ref 38), some (.int (nI (p))), some (.int (J (z))), some (.int (nI (cAll (lp P p) z i + cRow (lp P p) z i k))), some (.int (nI (i))), some (.int (nI ((pPat P p).getD i 0))), some (.int (nI (k))), none] [] h Q := by
  have hokl := hQ.2.2.2.1 p hp
  have hl60 := hokl.1
  have hLO : LO K.1 (lp P p) := lv0_ok hQ hokl
  have hmd : pMd P ≤ 6000 := hQ.1
  have hnp := hQ.2.2.1
  have hk40 := hO.1
  have hrow := PO_row hQ hp hi
  have hli := (hLO.2 i hi).1
  obtain ⟨c1, c2, c3⟩ := hP.1.2 _ hrow
  intro d
  induction d with
  | zero =>
    intro k hkk
    obtain rfl : gL (lp P p) i = k := by omega
    refine Ex_iload d_rm_count_51 rfl ?_
    refine Ex_aload_n d_rm_count_53 rfl ?_
    refine Ex_getR (v := .ref 44) d_rm_count_54 pf_rm_27 rfl (t_38 hs) (r_38_6 hs) ?_
    refine Ex_iload d_rm_count_57 rfl ?_
    refine Ex_ialoadN (a := (pPat P p).getD i 0) (y := (nI (gL (lp P p) i))) d_rm_count_59 (t_44 hs) rfl (by omega) (by decide) c1 ?_
    refine Ex_icmp_geN (gL (lp P p) i) (gL (lp P p) i) 119 d_rm_count_60 rfl rfl rfl (by omega) (by omega) (fun hc60 => ?_) (fun hc60 => ?_)
    · exact kx
    · exfalso; omega
  | succ d ih =>
    intro k hkk
    have hkl : k < gL (lp P p) i := by omega
    have hok := (hLO.2 i hi).2 k hkl
    have hcl := cAll_le hLO z i (by show i ≤ (pPat P p).length; omega)
    have hcr := cRow_le (lp P p) z i k
    match hcc : gX (lp P p) i k, hok with
    | none, _ =>
      refine Ex_iload d_rm_count_51 rfl ?_
      refine Ex_aload_n d_rm_count_53 rfl ?_
      refine Ex_getR (v := .ref 44) d_rm_count_54 pf_rm_27 rfl (t_38 hs) (r_38_6 hs) ?_
      refine Ex_iload d_rm_count_57 rfl ?_
      refine Ex_ialoadN (a := (pPat P p).getD i 0) (y := (nI (gL (lp P p) i))) d_rm_count_59 (t_44 hs) rfl (by omega) (by decide) c1 ?_
      refine Ex_icmp_geN (k) (gL (lp P p) i) 119 d_rm_count_60 rfl rfl rfl (by omega) (by omega) (fun hc60 => ?_) (fun hc60 => ?_)
      · exfalso; omega
      · refine Ex_aload_n d_rm_count_63 rfl ?_
        refine Ex_getR (v := .ref 46) d_rm_count_64 pf_rm_34 rfl (t_38 hs) (r_38_8 hs) ?_
        refine Ex_bipush d_rm_count_67 bp_60 ?_
        refine Ex_iload d_rm_count_69 rfl ?_
        refine Ex_imulN (60) ((pPat P p).getD i 0) d_rm_count_71 rfl rfl ?_
        refine Ex_iload d_rm_count_72 rfl ?_
        refine Ex_iaddN (60 * ((pPat P p).getD i 0)) (k) d_rm_count_74 rfl rfl ?_
        refine Ex_ialoadN (a := (60 * ((pPat P p).getD i 0)) + k) (y := (0 : Int32)) d_rm_count_75 (t_46 hs) rfl (by omega) (by decide) (by rw [show mI h 46 (60 * ((pPat P p).getD i 0) + k) = eM (gX (lp P p) i k) from c3 k hkl, hcc]; try rfl) ?_
        refine Ex_istore [some (.ref 38), some (.int (nI (p))), some (.int (J (z))), some (.int (nI (cAll (lp P p) z i + cRow (lp P p) z i k))), some (.int (nI (i))), some (.int (nI ((pPat P p).getD i 0))), some (.int (nI (k))), some (.int (0))] d_rm_count_76 (Nat.le_of_ble_eq_true rfl) rfl ?_
        refine Ex_iload_n d_rm_count_78 rfl ?_
        refine Ex_iload d_rm_count_79 rfl ?_
        refine Ex_if_neN (0) 97 d_rm_count_81 rfl rfl (by omega) (fun hc81 => ?_) (fun hc81 => ?_)
        · exact absurd hc81 (by decide)
        · refine Ex_iload_n d_rm_count_84 rfl ?_
          refine Ex_iconst d_rm_count_85 ic_m1 ?_
          refine Ex_icmp_neZ (z) ((-1)) 93 d_rm_count_86 rfl rfl (by decide) (by omega) (by omega) (fun hc86 => ?_) (fun hc86 => ?_)
          · refine Ex_iconst d_rm_count_93 ic_0 ?_
            refine Ex_goto 111 d_rm_count_94 rfl ?_
            refine Ex_iaddN (cAll (lp P p) z i + cRow (lp P p) z i k) (0) d_rm_count_111 rfl rfl ?_
            refine Ex_istore_n [some (.ref 38), some (.int (nI (p))), some (.int (J (z))), some (.int (nI ((cAll (lp P p) z i + cRow (lp P p) z i k) + 0))), some (.int (nI (i))), some (.int (nI ((pPat P p).getD i 0))), some (.int (nI (k))), some (.int (0))] d_rm_count_112 (Nat.le_of_ble_eq_true rfl) rfl ?_
            refine Ex_iincN (k) 1 [some (.ref 38), some (.int (nI (p))), some (.int (J (z))), some (.int (nI ((cAll (lp P p) z i + cRow (lp P p) z i k) + 0))), some (.int (nI (i))), some (.int (nI ((pPat P p).getD i 0))), some (.int (nI (k + 1))), some (.int (0))] d_rm_count_113 rfl rfl rfl rfl ?_
            refine Ex_goto 51 d_rm_count_116 rfl ?_
            refine Ex_forget (ls' := [some (.ref 38), some (.int (nI (p))), some (.int (J (z))), some (.int (nI ((cAll (lp P p) z i + cRow (lp P p) z i k) + 0))), some (.int (nI (i))), some (.int (nI ((pPat P p).getD i 0))), some (.int (nI (k + 1))), none]) (sub_s (sub_s (sub_s (sub_s (sub_s (sub_s (sub_s (sub_n sub_0)))))))) ?_
            have z1 := ih (k + 1) (by omega)
            rw [show cRow (lp P p) z i (k + 1) = cRow (lp P p) z i k + 0 by
              show _ + _ = _
              rw [hcc]
              show _ + (if decide _ = true then 1 else 0) = _
              rw [decide_eq_false (by omega)]
              rfl, ← Nat.add_assoc] at z1
            exact z1
          · refine Ex_iconst d_rm_count_89 ic_1 ?_
            refine Ex_goto 111 d_rm_count_90 rfl ?_
            refine Ex_iaddN (cAll (lp P p) z i + cRow (lp P p) z i k) (1) d_rm_count_111 rfl rfl ?_
            refine Ex_istore_n [some (.ref 38), some (.int (nI (p))), some (.int (J (z))), some (.int (nI ((cAll (lp P p) z i + cRow (lp P p) z i k) + 1))), some (.int (nI (i))), some (.int (nI ((pPat P p).getD i 0))), some (.int (nI (k))), some (.int (0))] d_rm_count_112 (Nat.le_of_ble_eq_true rfl) rfl ?_
            refine Ex_iincN (k) 1 [some (.ref 38), some (.int (nI (p))), some (.int (J (z))), some (.int (nI ((cAll (lp P p) z i + cRow (lp P p) z i k) + 1))), some (.int (nI (i))), some (.int (nI ((pPat P p).getD i 0))), some (.int (nI (k + 1))), some (.int (0))] d_rm_count_113 rfl rfl rfl rfl ?_
            refine Ex_goto 51 d_rm_count_116 rfl ?_
            refine Ex_forget (ls' := [some (.ref 38), some (.int (nI (p))), some (.int (J (z))), some (.int (nI ((cAll (lp P p) z i + cRow (lp P p) z i k) + 1))), some (.int (nI (i))), some (.int (nI ((pPat P p).getD i 0))), some (.int (nI (k + 1))), none]) (sub_s (sub_s (sub_s (sub_s (sub_s (sub_s (sub_s (sub_n sub_0)))))))) ?_
            have z1 := ih (k + 1) (by omega)
            rw [show cRow (lp P p) z i (k + 1) = cRow (lp P p) z i k + 1 by
              show _ + _ = _
              rw [hcc]
              show _ + (if decide _ = true then 1 else 0) = _
              rw [decide_eq_true (by omega)]
              rfl, ← Nat.add_assoc] at z1
            exact z1
    | some (b1, m1, s1), hok =>
      have hb1 := hok.1
      refine Ex_iload d_rm_count_51 rfl ?_
      refine Ex_aload_n d_rm_count_53 rfl ?_
      refine Ex_getR (v := .ref 44) d_rm_count_54 pf_rm_27 rfl (t_38 hs) (r_38_6 hs) ?_
      refine Ex_iload d_rm_count_57 rfl ?_
      refine Ex_ialoadN (a := (pPat P p).getD i 0) (y := (nI (gL (lp P p) i))) d_rm_count_59 (t_44 hs) rfl (by omega) (by decide) c1 ?_
      refine Ex_icmp_geN (k) (gL (lp P p) i) 119 d_rm_count_60 rfl rfl rfl (by omega) (by omega) (fun hc60 => ?_) (fun hc60 => ?_)
      · exfalso; omega
      · refine Ex_aload_n d_rm_count_63 rfl ?_
        refine Ex_getR (v := .ref 46) d_rm_count_64 pf_rm_34 rfl (t_38 hs) (r_38_8 hs) ?_
        refine Ex_bipush d_rm_count_67 bp_60 ?_
        refine Ex_iload d_rm_count_69 rfl ?_
        refine Ex_imulN (60) ((pPat P p).getD i 0) d_rm_count_71 rfl rfl ?_
        refine Ex_iload d_rm_count_72 rfl ?_
        refine Ex_iaddN (60 * ((pPat P p).getD i 0)) (k) d_rm_count_74 rfl rfl ?_
        refine Ex_ialoadN (a := (60 * ((pPat P p).getD i 0)) + k) (y := (eM (some (b1, m1, s1)))) d_rm_count_75 (t_46 hs) rfl (by omega) (by decide) (by rw [show mI h 46 (60 * ((pPat P p).getD i 0) + k) = eM (gX (lp P p) i k) from c3 k hkl, hcc]; try rfl) ?_
        refine Ex_istore [some (.ref 38), some (.int (nI (p))), some (.int (J (z))), some (.int (nI (cAll (lp P p) z i + cRow (lp P p) z i k))), some (.int (nI (i))), some (.int (nI ((pPat P p).getD i 0))), some (.int (nI (k))), some (.int (eM (some (b1, m1, s1))))] d_rm_count_76 (Nat.le_of_ble_eq_true rfl) rfl ?_
        refine Ex_iload_n d_rm_count_78 rfl ?_
        refine Ex_iload d_rm_count_79 rfl ?_
        refine Ex_if_ne 97 d_rm_count_81 rfl (fun hc81 => ?_) (fun hc81 => ?_)
        · refine Ex_iload d_rm_count_97 rfl ?_
          refine Ex_pS1 (v := .int (nI (b1))) d_rm_count_99 pk_rm_count_156 (rm_kindOf_s (Nat.lt_of_lt_of_le hok.1 hO.1) hok.2.1 hok.2.2) ?_
          refine Ex_iload_n d_rm_count_102 rfl ?_
          refine Ex_icmp_neZ (((b1 : Nat) : Int)) (z) 110 d_rm_count_103 rfl (nIJ _) rfl (by (have := hok.1; omega)) (by (have := hok.1; omega)) (fun hc103 => ?_) (fun hc103 => ?_)
          · refine Ex_iconst d_rm_count_110 ic_0 ?_
            refine Ex_iaddN (cAll (lp P p) z i + cRow (lp P p) z i k) (0) d_rm_count_111 rfl rfl ?_
            refine Ex_istore_n [some (.ref 38), some (.int (nI (p))), some (.int (J (z))), some (.int (nI ((cAll (lp P p) z i + cRow (lp P p) z i k) + 0))), some (.int (nI (i))), some (.int (nI ((pPat P p).getD i 0))), some (.int (nI (k))), some (.int (eM (some (b1, m1, s1))))] d_rm_count_112 (Nat.le_of_ble_eq_true rfl) rfl ?_
            refine Ex_iincN (k) 1 [some (.ref 38), some (.int (nI (p))), some (.int (J (z))), some (.int (nI ((cAll (lp P p) z i + cRow (lp P p) z i k) + 0))), some (.int (nI (i))), some (.int (nI ((pPat P p).getD i 0))), some (.int (nI (k + 1))), some (.int (eM (some (b1, m1, s1))))] d_rm_count_113 rfl rfl rfl rfl ?_
            refine Ex_goto 51 d_rm_count_116 rfl ?_
            refine Ex_forget (ls' := [some (.ref 38), some (.int (nI (p))), some (.int (J (z))), some (.int (nI ((cAll (lp P p) z i + cRow (lp P p) z i k) + 0))), some (.int (nI (i))), some (.int (nI ((pPat P p).getD i 0))), some (.int (nI (k + 1))), none]) (sub_s (sub_s (sub_s (sub_s (sub_s (sub_s (sub_s (sub_n sub_0)))))))) ?_
            have z1 := ih (k + 1) (by omega)
            rw [show cRow (lp P p) z i (k + 1) = cRow (lp P p) z i k + 0 by
              show _ + _ = _
              rw [hcc]
              show _ + (if decide _ = true then 1 else 0) = _
              rw [decide_eq_false (by omega)]
              rfl, ← Nat.add_assoc] at z1
            exact z1
          · refine Ex_iconst d_rm_count_106 ic_1 ?_
            refine Ex_goto 111 d_rm_count_107 rfl ?_
            refine Ex_iaddN (cAll (lp P p) z i + cRow (lp P p) z i k) (1) d_rm_count_111 rfl rfl ?_
            refine Ex_istore_n [some (.ref 38), some (.int (nI (p))), some (.int (J (z))), some (.int (nI ((cAll (lp P p) z i + cRow (lp P p) z i k) + 1))), some (.int (nI (i))), some (.int (nI ((pPat P p).getD i 0))), some (.int (nI (k))), some (.int (eM (some (b1, m1, s1))))] d_rm_count_112 (Nat.le_of_ble_eq_true rfl) rfl ?_
            refine Ex_iincN (k) 1 [some (.ref 38), some (.int (nI (p))), some (.int (J (z))), some (.int (nI ((cAll (lp P p) z i + cRow (lp P p) z i k) + 1))), some (.int (nI (i))), some (.int (nI ((pPat P p).getD i 0))), some (.int (nI (k + 1))), some (.int (eM (some (b1, m1, s1))))] d_rm_count_113 rfl rfl rfl rfl ?_
            refine Ex_goto 51 d_rm_count_116 rfl ?_
            refine Ex_forget (ls' := [some (.ref 38), some (.int (nI (p))), some (.int (J (z))), some (.int (nI ((cAll (lp P p) z i + cRow (lp P p) z i k) + 1))), some (.int (nI (i))), some (.int (nI ((pPat P p).getD i 0))), some (.int (nI (k + 1))), none]) (sub_s (sub_s (sub_s (sub_s (sub_s (sub_s (sub_s (sub_n sub_0)))))))) ?_
            have z1 := ih (k + 1) (by omega)
            rw [show cRow (lp P p) z i (k + 1) = cRow (lp P p) z i k + 1 by
              show _ + _ = _
              rw [hcc]
              show _ + (if decide _ = true then 1 else 0) = _
              rw [decide_eq_true (by omega)]
              rfl, ← Nat.add_assoc] at z1
            exact z1
        · exact absurd hc81 (eM_ne (okT_mono hok hO.1))
theorem rm_count_L2 {S : mj_S} {Q : Option Value → mj_H → Prop} {h : mj_H} (hs : HT h) {K : SK} (hK : KM K h) (hO : KO K) {P : SP} (hP : PM P h) (hQ : PO K.1 P) {p : Nat} (hp : p < pNp P) {z : Int} (hz : -1 ≤ z ∧ z < 40)
    (kx : Ex S rm_count 125 [some (.ref 38), some (.int (nI (p))), some (.int (J (z))), some (.int (nI (cAll (lp P p) z ((pPat P p).length)))), some (.int (nI ((pPat P p).length))), none, none, none] [] h Q) : ∀ d i : Nat, i + d = (pPat P p).length → Ex S rm_count 28 [some (.ref 38), some (.int (nI (p))), some (.int (J (z))), some (.int (nI (cAll (lp P p) z i))), some (.int (nI (i))), none, none, none] [] h Q := by
  have hokl := hQ.2.2.2.1 p hp
  have hl60 := hokl.1
  have hLO : LO K.1 (lp P p) := lv0_ok hQ hokl
  have hmd : pMd P ≤ 6000 := hQ.1
  have hnp := hQ.2.2.1
  have hk40 := hO.1
  intro d
  induction d with
  | zero =>
    intro i hkk
    obtain rfl : (pPat P p).length = i := by omega
    refine Ex_iload d_rm_count_28 rfl ?_
    refine Ex_aload_n d_rm_count_30 rfl ?_
    refine Ex_getR (v := .ref 48) d_rm_count_31 pf_rm_40 rfl (t_38 hs) (r_38_11 hs) ?_
    refine Ex_iload_n d_rm_count_34 rfl ?_
    refine Ex_ialoadN (a := p) (y := (nI ((pPat P p).length))) d_rm_count_35 (t_48 hs) rfl (by omega) (by decide) (hP.2.1.2 p hp).1 ?_
    refine Ex_icmp_geN ((pPat P p).length) ((pPat P p).length) 125 d_rm_count_36 rfl rfl rfl (by omega) (by omega) (fun hc36 => ?_) (fun hc36 => ?_)
    · exact kx
    · exfalso; omega
  | succ d ih =>
    intro i hkk
    have hi : i < (pPat P p).length := by omega
    refine Ex_iload d_rm_count_28 rfl ?_
    refine Ex_aload_n d_rm_count_30 rfl ?_
    refine Ex_getR (v := .ref 48) d_rm_count_31 pf_rm_40 rfl (t_38 hs) (r_38_11 hs) ?_
    refine Ex_iload_n d_rm_count_34 rfl ?_
    refine Ex_ialoadN (a := p) (y := (nI ((pPat P p).length))) d_rm_count_35 (t_48 hs) rfl (by omega) (by decide) (hP.2.1.2 p hp).1 ?_
    refine Ex_icmp_geN (i) ((pPat P p).length) 125 d_rm_count_36 rfl rfl rfl (by omega) (by omega) (fun hc36 => ?_) (fun hc36 => ?_)
    · exfalso; omega
    · refine Ex_aload_n d_rm_count_39 rfl ?_
      refine Ex_iload_n d_rm_count_40 rfl ?_
      refine Ex_iload d_rm_count_41 rfl ?_
      refine Ex_pV2 (v := .int (nI ((pPat P p).getD i 0))) d_rm_count_43 pk_rm_count_175 (t_38 hs) (rm_rowOf_p hs hP.2.1 hQ hp hi) ?_
      refine Ex_istore [some (.ref 38), some (.int (nI (p))), some (.int (J (z))), some (.int (nI (cAll (lp P p) z i))), some (.int (nI (i))), some (.int (nI ((pPat P p).getD i 0))), none, none] d_rm_count_46 (Nat.le_of_ble_eq_true rfl) rfl ?_
      refine Ex_iconst d_rm_count_48 ic_0 ?_
      refine Ex_istore [some (.ref 38), some (.int (nI (p))), some (.int (J (z))), some (.int (nI (cAll (lp P p) z i))), some (.int (nI (i))), some (.int (nI ((pPat P p).getD i 0))), some (.int (0)), none] d_rm_count_49 (Nat.le_of_ble_eq_true rfl) rfl ?_
      refine rm_count_L1 hs hK hO hP hQ hp hz hi ?_ (gL (lp P p) i) 0 (by omega)
      refine Ex_iincN (i) 1 [some (.ref 38), some (.int (nI (p))), some (.int (J (z))), some (.int (nI (cAll (lp P p) z i + cRow (lp P p) z i (gL (lp P p) i)))), some (.int (nI (i + 1))), some (.int (nI ((pPat P p).getD i 0))), some (.int (nI (gL (lp P p) i))), none] d_rm_count_119 rfl rfl rfl rfl ?_
      refine Ex_goto 28 d_rm_count_122 rfl ?_
      refine Ex_forget (ls' := [some (.ref 38), some (.int (nI (p))), some (.int (J (z))), some (.int (nI (cAll (lp P p) z i + cRow (lp P p) z i (gL (lp P p) i)))), some (.int (nI (i + 1))), none, none, none]) (sub_s (sub_s (sub_s (sub_s (sub_s (sub_n (sub_n (sub_n sub_0)))))))) ?_
      exact ih (i + 1) (by omega)
theorem rm_count_s {S : mj_S} {h : mj_H} (hs : HT h) {K : SK} (hK : KM K h) (hO : KO K) {P : SP} (hP : PM P h) (hQ : PO K.1 P) {p k : Int} (hp : -2147483648 ≤ p ∧ p < 2147483648) (hk : -2147483648 ≤ k ∧ k < 2147483648) : Cl S rm_count [.ref 38, .int (J (p)), .int (J (k))] h (Pu (.int (J (countS K P p k))) h) := by
  show Ex S rm_count 0 [some (.ref 38), some (.int (J (p))), some (.int (J (k))), none, none, none, none, none] [] h _
  have hk40 := hO.1
  refine Ex_aload_n d_rm_count_0 rfl ?_
  refine Ex_iload_n d_rm_count_1 rfl ?_
  refine Ex_pV1 (v := .int (bI (decide (0 ≤ p ∧ p < pNp P)))) d_rm_count_2 pk_rm_count_187 (t_38 hs) (rm_isPattern_s hs hP.2.1 hQ.2.2.1 hp) ?_
  refine Ex_if_eqB (decide (0 ≤ p ∧ p < pNp P)) 21 d_rm_count_5 rfl rfl (fun hc5 => ?_) (fun hc5 => ?_)
  · rw [decide_eq_false_iff_not] at hc5
    refine Ex_iconst d_rm_count_21 ic_m1 ?_
    refine Ex_ireturn d_rm_count_22 rfl ?_
    exact Pu_m1 (by unfold countS; rw [if_neg (by unfold okCt; omega)])
  · rw [decide_eq_true_eq] at hc5
    refine Ex_iload_n d_rm_count_8 rfl ?_
    refine Ex_iconst d_rm_count_9 ic_m1 ?_
    refine Ex_icmp_eqZ (k) ((-1)) 23 d_rm_count_10 rfl rfl (by decide) (by omega) (by omega) (fun hc10 => ?_) (fun hc10 => ?_)
    · obtain ⟨a, rfl⟩ : ∃ a : Nat, p = (a : Int) := ⟨p.toNat, by omega⟩
      simp only [← nIJ]
      refine Ex_iconst d_rm_count_23 ic_0 ?_
      refine Ex_istore_n [some (.ref 38), some (.int (nI (a))), some (.int (J (k))), some (.int (0)), none, none, none, none] d_rm_count_24 (Nat.le_of_ble_eq_true rfl) rfl ?_
      refine Ex_iconst d_rm_count_25 ic_0 ?_
      refine Ex_istore [some (.ref 38), some (.int (nI (a))), some (.int (J (k))), some (.int (0)), some (.int (0)), none, none, none] d_rm_count_26 (Nat.le_of_ble_eq_true rfl) rfl ?_
      refine rm_count_L2 hs hK hO hP hQ (p := a) (by omega) (z := k) (by omega) ?_ (pPat P a).length 0 (by omega)
      refine Ex_iload_n d_rm_count_125 rfl ?_
      refine Ex_ireturn d_rm_count_126 rfl ?_
      exact Pu_nz (by unfold countS; rw [if_pos (by unfold okCt; omega), Int.toNat_natCast])
    · refine Ex_aload_n d_rm_count_13 rfl ?_
      refine Ex_iload_n d_rm_count_14 rfl ?_
      refine Ex_pV1 (v := .int (bI (decide (0 ≤ k ∧ k < K.1)))) d_rm_count_15 pk_rm_count_145 (t_38 hs) (rm_isKind_s hs hK hO hk) ?_
      refine Ex_if_neB (decide (0 ≤ k ∧ k < K.1)) 23 d_rm_count_18 rfl rfl (fun hc18 => ?_) (fun hc18 => ?_)
      · rw [decide_eq_true_eq] at hc18
        obtain ⟨a, rfl⟩ : ∃ a : Nat, p = (a : Int) := ⟨p.toNat, by omega⟩
        simp only [← nIJ]
        refine Ex_iconst d_rm_count_23 ic_0 ?_
        refine Ex_istore_n [some (.ref 38), some (.int (nI (a))), some (.int (J (k))), some (.int (0)), none, none, none, none] d_rm_count_24 (Nat.le_of_ble_eq_true rfl) rfl ?_
        refine Ex_iconst d_rm_count_25 ic_0 ?_
        refine Ex_istore [some (.ref 38), some (.int (nI (a))), some (.int (J (k))), some (.int (0)), some (.int (0)), none, none, none] d_rm_count_26 (Nat.le_of_ble_eq_true rfl) rfl ?_
        refine rm_count_L2 hs hK hO hP hQ (p := a) (by omega) (z := k) (by omega) ?_ (pPat P a).length 0 (by omega)
        refine Ex_iload_n d_rm_count_125 rfl ?_
        refine Ex_ireturn d_rm_count_126 rfl ?_
        exact Pu_nz (by unfold countS; rw [if_pos (by unfold okCt; omega), Int.toNat_natCast])
      · rw [decide_eq_false_iff_not] at hc18
        refine Ex_iconst d_rm_count_21 ic_m1 ?_
        refine Ex_ireturn d_rm_count_22 rfl ?_
        exact Pu_m1 (by unfold countS; rw [if_neg (by unfold okCt; omega)])
theorem rm_fits_L1 {S : mj_S} {Q : Option Value → mj_H → Prop} {h : mj_H} (hs : HT h) {K : SK} (hK : KM K h) (hO : KO K) {P : SP} (hP : PM P h) (hQ : PO K.1 P) {p : Nat} (hp : p < pNp P) {i : Nat} (hi : i < (pPat P p).length) : ∀ d k : Nat, k + d = gL (lp P p) i → (∀ v, first (fCell K P p i) d k = some v → Q (some (.int (J v))) h) → (first (fCell K P p i) d k = none → Ex S rm_fits 194 [some (.ref 38), some (.int (nI (p))), some (.int (nI (sumL (lp P p) i + (gL (lp P p) i)))), some (.int (nI (i))), some (.int (nI ((pPat P p).getD i 0))), some (.int (nI (gL (lp P p) i))), none, none, none, none] [] h Q) → Ex S rm_fits 35 [some (.ref 38), some (.int (nI (p))), some (.int (nI (sumL (lp P p) i + k))), some (.int (nI (i))), some (.int (nI ((pPat P p).getD i 0))), some (.int (nI (k))), none, none, none, none] [] h Q := by
  have hokl := hQ.2.2.2.1 p hp
  have hl60 := hokl.1
  have hLO : LO K.1 (lp P p) := lv0_ok hQ hokl
  have hmd : pMd P ≤ 6000 := hQ.1
  have hnp := hQ.2.2.1
  have hk40 := hO.1
  have hrow := PO_row hQ hp hi
  have hli := (hLO.2 i hi).1
  obtain ⟨c1, c2, c3⟩ := hP.1.2 _ hrow
  intro d
  induction d with
  | zero =>
    intro k hkk kz kx
    obtain rfl : gL (lp P p) i = k := by omega
    refine Ex_iload d_rm_fits_35 rfl ?_
    refine Ex_aload_n d_rm_fits_37 rfl ?_
    refine Ex_getR (v := .ref 44) d_rm_fits_38 pf_rm_27 rfl (t_38 hs) (r_38_6 hs) ?_
    refine Ex_iload d_rm_fits_41 rfl ?_
    refine Ex_ialoadN (a := (pPat P p).getD i 0) (y := (nI (gL (lp P p) i))) d_rm_fits_43 (t_44 hs) rfl (by omega) (by decide) c1 ?_
    refine Ex_icmp_geN (gL (lp P p) i) (gL (lp P p) i) 194 d_rm_fits_44 rfl rfl rfl (by omega) (by omega) (fun hc44 => ?_) (fun hc44 => ?_)
    · exact kx rfl
    · exfalso; omega
  | succ d ih =>
    intro k hkk kz kx
    have hkl : k < gL (lp P p) i := by omega
    have hok := (hLO.2 i hi).2 k hkl
    have hsl := sumL_le hLO i (by show i ≤ (pPat P p).length; omega)
    refine Ex_iload d_rm_fits_35 rfl ?_
    refine Ex_aload_n d_rm_fits_37 rfl ?_
    refine Ex_getR (v := .ref 44) d_rm_fits_38 pf_rm_27 rfl (t_38 hs) (r_38_6 hs) ?_
    refine Ex_iload d_rm_fits_41 rfl ?_
    refine Ex_ialoadN (a := (pPat P p).getD i 0) (y := (nI (gL (lp P p) i))) d_rm_fits_43 (t_44 hs) rfl (by omega) (by decide) c1 ?_
    refine Ex_icmp_geN (k) (gL (lp P p) i) 194 d_rm_fits_44 rfl rfl rfl (by omega) (by omega) (fun hc44 => ?_) (fun hc44 => ?_)
    · exfalso; omega
    · refine Ex_aload_n d_rm_fits_47 rfl ?_
      refine Ex_getR (v := .ref 45) d_rm_fits_48 pf_rm_30 rfl (t_38 hs) (r_38_7 hs) ?_
      refine Ex_iload d_rm_fits_51 rfl ?_
      refine Ex_ialoadN (a := (pPat P p).getD i 0) (y := (J (gO (lp P p) i))) d_rm_fits_53 (t_45 hs) rfl (by omega) (by decide) c2 ?_
      refine Ex_iload d_rm_fits_54 rfl ?_
      refine Ex_iaddZ (gO (lp P p) i) (((k : Nat) : Int)) d_rm_fits_56 rfl (nIJ _) ?_
      refine Ex_istore [some (.ref 38), some (.int (nI (p))), some (.int (nI (sumL (lp P p) i + k))), some (.int (nI (i))), some (.int (nI ((pPat P p).getD i 0))), some (.int (nI (k))), some (.int (J ((gO (lp P p) i) + (((k : Nat) : Int))))), none, none, none] d_rm_fits_57 (Nat.le_of_ble_eq_true rfl) rfl ?_
      refine Ex_aload_n d_rm_fits_59 rfl ?_
      refine Ex_getR (v := .ref 46) d_rm_fits_60 pf_rm_34 rfl (t_38 hs) (r_38_8 hs) ?_
      refine Ex_bipush d_rm_fits_63 bp_60 ?_
      refine Ex_iload d_rm_fits_65 rfl ?_
      refine Ex_imulN (60) ((pPat P p).getD i 0) d_rm_fits_67 rfl rfl ?_
      refine Ex_iload d_rm_fits_68 rfl ?_
      refine Ex_iaddN (60 * ((pPat P p).getD i 0)) (k) d_rm_fits_70 rfl rfl ?_
      refine Ex_ialoadN (a := (60 * ((pPat P p).getD i 0)) + k) (y := (eM (gX (lp P p) i k))) d_rm_fits_71 (t_46 hs) rfl (by omega) (by decide) (c3 k (show k < gL (lp P p) i by omega)) ?_
      refine Ex_istore [some (.ref 38), some (.int (nI (p))), some (.int (nI (sumL (lp P p) i + k))), some (.int (nI (i))), some (.int (nI ((pPat P p).getD i 0))), some (.int (nI (k))), some (.int (J ((gO (lp P p) i) + (((k : Nat) : Int))))), some (.int (eM (gX (lp P p) i k))), none, none] d_rm_fits_72 (Nat.le_of_ble_eq_true rfl) rfl ?_
      refine Ex_aload_n d_rm_fits_74 rfl ?_
      refine Ex_iload_n d_rm_fits_75 rfl ?_
      refine Ex_iload_n d_rm_fits_76 rfl ?_
      refine Ex_i2lZ (((i : Nat) : Int)) d_rm_fits_77 (nIJ _) (by omega) ?_
      refine Ex_iload d_rm_fits_78 rfl ?_
      refine Ex_iconst d_rm_fits_80 ic_1 ?_
      refine Ex_iaddZ ((gO (lp P p) i) + (((k : Nat) : Int))) ((1)) d_rm_fits_81 rfl (by decide) ?_
      refine Ex_i2lZ (((gO (lp P p) i) + (((k : Nat) : Int))) + ((1))) d_rm_fits_82 rfl (by omega) ?_
      refine Ex_pV3 (v := .int (bI ((cAt P p (i : Int) (gO (lp P p) i + (k : Int) + 1)).isSome))) d_rm_fits_83 pk_rm_fits_204 (t_38 hs) (rm_has_s hs hP hQ hp (by omega) (by omega)) ?_
      refine Ex_if_eqB ((cAt P p (i : Int) (gO (lp P p) i + (k : Int) + 1)).isSome) 109 d_rm_fits_86 rfl rfl (fun hc86 => ?_) (fun hc86 => ?_)
      · have hrt : fRt K P p i k = true := by unfold fRt; rw [show cAt P p (i : Int) (gO (lp P p) i + (k : Int) + 1) = none by cases z : cAt P p (i : Int) (gO (lp P p) i + (k : Int) + 1) with | none => rfl | some _ => rw [z] at hc86; cases hc86]; rfl
        refine Ex_iconst d_rm_fits_109 ic_1 ?_
        refine Ex_goto 114 d_rm_fits_110 rfl ?_
        refine Ex_istore [some (.ref 38), some (.int (nI (p))), some (.int (nI (sumL (lp P p) i + k))), some (.int (nI (i))), some (.int (nI ((pPat P p).getD i 0))), some (.int (nI (k))), some (.int (J ((gO (lp P p) i) + (((k : Nat) : Int))))), some (.int (eM (gX (lp P p) i k))), some (.int (1)), none] d_rm_fits_114 (Nat.le_of_ble_eq_true rfl) rfl ?_
        refine Ex_aload_n d_rm_fits_116 rfl ?_
        refine Ex_iload_n d_rm_fits_117 rfl ?_
        refine Ex_iload_n d_rm_fits_118 rfl ?_
        refine Ex_iconst d_rm_fits_119 ic_1 ?_
        refine Ex_iaddN (i) (1) d_rm_fits_120 rfl rfl ?_
        refine Ex_i2lZ (((i + 1 : Nat) : Int)) d_rm_fits_121 (nIJ _) (by omega) ?_
        refine Ex_iload d_rm_fits_122 rfl ?_
        refine Ex_i2lZ ((gO (lp P p) i) + (((k : Nat) : Int))) d_rm_fits_124 rfl (by omega) ?_
        refine Ex_pV3 (v := .int (bI ((cAt P p ((i : Int) + 1) (gO (lp P p) i + (k : Int))).isSome))) d_rm_fits_125 pk_rm_fits_204 (t_38 hs) (rm_has_s hs hP hQ hp (by omega) (by omega)) ?_
        refine Ex_if_eqB ((cAt P p ((i : Int) + 1) (gO (lp P p) i + (k : Int))).isSome) 151 d_rm_fits_128 rfl rfl (fun hc128 => ?_) (fun hc128 => ?_)
        · have hbw : fBw K P p i k = true := by unfold fBw; rw [show cAt P p ((i : Int) + 1) (gO (lp P p) i + (k : Int)) = none by cases z : cAt P p ((i : Int) + 1) (gO (lp P p) i + (k : Int)) with | none => rfl | some _ => rw [z] at hc128; cases hc128]; rfl
          refine Ex_iconst d_rm_fits_151 ic_1 ?_
          refine Ex_goto 156 d_rm_fits_152 rfl ?_
          refine Ex_istore [some (.ref 38), some (.int (nI (p))), some (.int (nI (sumL (lp P p) i + k))), some (.int (nI (i))), some (.int (nI ((pPat P p).getD i 0))), some (.int (nI (k))), some (.int (J ((gO (lp P p) i) + (((k : Nat) : Int))))), some (.int (eM (gX (lp P p) i k))), some (.int (1)), some (.int (1))] d_rm_fits_156 (Nat.le_of_ble_eq_true rfl) rfl ?_
          refine Ex_iload d_rm_fits_158 rfl ?_
          refine Ex_if_eqN (1) 168 d_rm_fits_160 rfl rfl (by omega) (fun hc160 => ?_) (fun hc160 => ?_)
          · exact absurd hc160 (by decide)
          · refine Ex_iload d_rm_fits_163 rfl ?_
            refine Ex_if_neN (1) 185 d_rm_fits_165 rfl rfl (by omega) (fun hc165 => ?_) (fun hc165 => ?_)
            · refine Ex_iincN (sumL (lp P p) i + k) 1 [some (.ref 38), some (.int (nI (p))), some (.int (nI ((sumL (lp P p) i + k) + 1))), some (.int (nI (i))), some (.int (nI ((pPat P p).getD i 0))), some (.int (nI (k))), some (.int (J ((gO (lp P p) i) + (((k : Nat) : Int))))), some (.int (eM (gX (lp P p) i k))), some (.int (1)), some (.int (1))] d_rm_fits_185 rfl rfl rfl rfl ?_
              refine Ex_iincN (k) 1 [some (.ref 38), some (.int (nI (p))), some (.int (nI ((sumL (lp P p) i + k) + 1))), some (.int (nI (i))), some (.int (nI ((pPat P p).getD i 0))), some (.int (nI (k + 1))), some (.int (J ((gO (lp P p) i) + (((k : Nat) : Int))))), some (.int (eM (gX (lp P p) i k))), some (.int (1)), some (.int (1))] d_rm_fits_188 rfl rfl rfl rfl ?_
              refine Ex_goto 35 d_rm_fits_191 rfl ?_
              refine Ex_forget (ls' := [some (.ref 38), some (.int (nI (p))), some (.int (nI ((sumL (lp P p) i + k) + 1))), some (.int (nI (i))), some (.int (nI ((pPat P p).getD i 0))), some (.int (nI (k + 1))), none, none, none, none]) (sub_s (sub_s (sub_s (sub_s (sub_s (sub_s (sub_n (sub_n (sub_n (sub_n sub_0)))))))))) ?_
              have hR : fRt K P p i k = true := by first | exact hc106 | exact hrt
              have hBw : fBw K P p i k = true := by first | exact hc148 | exact hbw
              have hfc : fCell K P p i k = none := by unfold fCell; rw [if_pos ⟨hR, hBw⟩]
              rw [first_n hfc] at kz kx
              rw [Nat.add_assoc]
              exact ih (k + 1) (by omega) kz kx
            · exact absurd hc165 (by decide)
        · obtain ⟨c2, hq2⟩ := Option.isSome_iff_exists.mp hc128
          have ok2 : okT K.1 c2 := by have z2 : okA K.1 (cAt P p ((i : Int) + 1) (gO (lp P p) i + (k : Int))) := cAt_ok hQ hp; rw [hq2] at z2; exact z2
          have hbw : fBw K P p i k = fitT K (gX (lp P p) i k) c2 2 := by unfold fBw; rw [hq2]; rfl
          refine Ex_aload_n d_rm_fits_131 rfl ?_
          refine Ex_iload d_rm_fits_132 rfl ?_
          refine Ex_aload_n d_rm_fits_134 rfl ?_
          refine Ex_iload_n d_rm_fits_135 rfl ?_
          refine Ex_iload_n d_rm_fits_136 rfl ?_
          refine Ex_iconst d_rm_fits_137 ic_1 ?_
          refine Ex_iaddN (i) (1) d_rm_fits_138 rfl rfl ?_
          refine Ex_iload d_rm_fits_139 rfl ?_
          refine Ex_pV3 (v := .int (eM c2)) d_rm_fits_141 pk_rm_fits_212 (t_38 hs) (show Cl S rm_cellAt [.ref 38, .int (nI p), .int (nI (i + 1)), .int (J ((gO (lp P p) i) + (((k : Nat) : Int))))] h _ by rw [nIJ (i + 1)]; exact rm_cellAt_s hs hP hQ hp (by rw [← hq2]; congr 1)) ?_
          refine Ex_iconst d_rm_fits_144 ic_2 ?_
          refine Ex_pV3 (v := .int (bI (fBw K P p i k))) d_rm_fits_145 pk_rm_fits_263 (t_38 hs) (by rw [hbw]; exact rm_fit_s hs hK hO hok ok2 (e := 2) (by omega)) ?_
          refine Ex_if_eqB (fBw K P p i k) 155 d_rm_fits_148 rfl rfl (fun hc148 => ?_) (fun hc148 => ?_)
          · refine Ex_iconst d_rm_fits_155 ic_0 ?_
            refine Ex_istore [some (.ref 38), some (.int (nI (p))), some (.int (nI (sumL (lp P p) i + k))), some (.int (nI (i))), some (.int (nI ((pPat P p).getD i 0))), some (.int (nI (k))), some (.int (J ((gO (lp P p) i) + (((k : Nat) : Int))))), some (.int (eM (gX (lp P p) i k))), some (.int (1)), some (.int (0))] d_rm_fits_156 (Nat.le_of_ble_eq_true rfl) rfl ?_
            refine Ex_iload d_rm_fits_158 rfl ?_
            refine Ex_if_eqN (1) 168 d_rm_fits_160 rfl rfl (by omega) (fun hc160 => ?_) (fun hc160 => ?_)
            · exact absurd hc160 (by decide)
            · refine Ex_iload d_rm_fits_163 rfl ?_
              refine Ex_if_neN (0) 185 d_rm_fits_165 rfl rfl (by omega) (fun hc165 => ?_) (fun hc165 => ?_)
              · exact absurd hc165 (by decide)
              · refine Ex_iconst d_rm_fits_168 ic_1 ?_
                refine Ex_iconst d_rm_fits_169 ic_2 ?_
                refine Ex_iload_n d_rm_fits_170 rfl ?_
                refine Ex_imulN (2) (sumL (lp P p) i + k) d_rm_fits_171 rfl rfl ?_
                refine Ex_iaddN (1) (2 * (sumL (lp P p) i + k)) d_rm_fits_172 rfl rfl ?_
                refine Ex_iload d_rm_fits_173 rfl ?_
                refine Ex_if_eqN (1) 182 d_rm_fits_175 rfl rfl (by omega) (fun hc175 => ?_) (fun hc175 => ?_)
                · exact absurd hc175 (by decide)
                · refine Ex_iconst d_rm_fits_178 ic_1 ?_
                  refine Ex_goto 183 d_rm_fits_179 rfl ?_
                  refine Ex_iaddN (1 + (2 * (sumL (lp P p) i + k))) (1) d_rm_fits_183 rfl rfl ?_
                  refine Ex_ireturn d_rm_fits_184 rfl ?_
                  have hR : fRt K P p i k = true := by first | exact hc106 | exact hrt
                  have hBw : fBw K P p i k = false := by first | exact hc148 | exact hbw
                  have hfc : fCell K P p i k = some (1 + 2 * ((sumL (lp P p) i + k : Nat) : Int) + (1)) := by
                    unfold fCell
                    rw [if_neg (by rintro ⟨q1, q2⟩; rw [q2] at hBw; cases hBw), hR]
                    rfl
                  have z := kz _ (first_s hfc d)
                  rw [show 1 + 2 * ((sumL (lp P p) i + k : Nat) : Int) + (1) = ((1 + 2 * (sumL (lp P p) i + k) + 1 : Nat) : Int) by omega, ← nIJ] at z
                  exact z
          · refine Ex_iconst d_rm_fits_151 ic_1 ?_
            refine Ex_goto 156 d_rm_fits_152 rfl ?_
            refine Ex_istore [some (.ref 38), some (.int (nI (p))), some (.int (nI (sumL (lp P p) i + k))), some (.int (nI (i))), some (.int (nI ((pPat P p).getD i 0))), some (.int (nI (k))), some (.int (J ((gO (lp P p) i) + (((k : Nat) : Int))))), some (.int (eM (gX (lp P p) i k))), some (.int (1)), some (.int (1))] d_rm_fits_156 (Nat.le_of_ble_eq_true rfl) rfl ?_
            refine Ex_iload d_rm_fits_158 rfl ?_
            refine Ex_if_eqN (1) 168 d_rm_fits_160 rfl rfl (by omega) (fun hc160 => ?_) (fun hc160 => ?_)
            · exact absurd hc160 (by decide)
            · refine Ex_iload d_rm_fits_163 rfl ?_
              refine Ex_if_neN (1) 185 d_rm_fits_165 rfl rfl (by omega) (fun hc165 => ?_) (fun hc165 => ?_)
              · refine Ex_iincN (sumL (lp P p) i + k) 1 [some (.ref 38), some (.int (nI (p))), some (.int (nI ((sumL (lp P p) i + k) + 1))), some (.int (nI (i))), some (.int (nI ((pPat P p).getD i 0))), some (.int (nI (k))), some (.int (J ((gO (lp P p) i) + (((k : Nat) : Int))))), some (.int (eM (gX (lp P p) i k))), some (.int (1)), some (.int (1))] d_rm_fits_185 rfl rfl rfl rfl ?_
                refine Ex_iincN (k) 1 [some (.ref 38), some (.int (nI (p))), some (.int (nI ((sumL (lp P p) i + k) + 1))), some (.int (nI (i))), some (.int (nI ((pPat P p).getD i 0))), some (.int (nI (k + 1))), some (.int (J ((gO (lp P p) i) + (((k : Nat) : Int))))), some (.int (eM (gX (lp P p) i k))), some (.int (1)), some (.int (1))] d_rm_fits_188 rfl rfl rfl rfl ?_
                refine Ex_goto 35 d_rm_fits_191 rfl ?_
                refine Ex_forget (ls' := [some (.ref 38), some (.int (nI (p))), some (.int (nI ((sumL (lp P p) i + k) + 1))), some (.int (nI (i))), some (.int (nI ((pPat P p).getD i 0))), some (.int (nI (k + 1))), none, none, none, none]) (sub_s (sub_s (sub_s (sub_s (sub_s (sub_s (sub_n (sub_n (sub_n (sub_n sub_0)))))))))) ?_
                have hR : fRt K P p i k = true := by first | exact hc106 | exact hrt
                have hBw : fBw K P p i k = true := by first | exact hc148 | exact hbw
                have hfc : fCell K P p i k = none := by unfold fCell; rw [if_pos ⟨hR, hBw⟩]
                rw [first_n hfc] at kz kx
                rw [Nat.add_assoc]
                exact ih (k + 1) (by omega) kz kx
              · exact absurd hc165 (by decide)
      · obtain ⟨c1, hq1⟩ := Option.isSome_iff_exists.mp hc86
        have ok1 : okT K.1 c1 := by have z2 : okA K.1 (cAt P p (i : Int) (gO (lp P p) i + (k : Int) + 1)) := cAt_ok hQ hp; rw [hq1] at z2; exact z2
        have hrt : fRt K P p i k = fitT K (gX (lp P p) i k) c1 1 := by unfold fRt; rw [hq1]; rfl
        refine Ex_aload_n d_rm_fits_89 rfl ?_
        refine Ex_iload d_rm_fits_90 rfl ?_
        refine Ex_aload_n d_rm_fits_92 rfl ?_
        refine Ex_iload_n d_rm_fits_93 rfl ?_
        refine Ex_iload_n d_rm_fits_94 rfl ?_
        refine Ex_iload d_rm_fits_95 rfl ?_
        refine Ex_iconst d_rm_fits_97 ic_1 ?_
        refine Ex_iaddZ ((gO (lp P p) i) + (((k : Nat) : Int))) ((1)) d_rm_fits_98 rfl (by decide) ?_
        refine Ex_pV3 (v := .int (eM c1)) d_rm_fits_99 pk_rm_fits_212 (t_38 hs) (show Cl S rm_cellAt [.ref 38, .int (nI p), .int (nI (i)), .int (J (((gO (lp P p) i) + (((k : Nat) : Int))) + ((1))))] h _ by rw [nIJ (i)]; exact rm_cellAt_s hs hP hQ hp hq1) ?_
        refine Ex_iconst d_rm_fits_102 ic_1 ?_
        refine Ex_pV3 (v := .int (bI (fRt K P p i k))) d_rm_fits_103 pk_rm_fits_263 (t_38 hs) (by rw [hrt]; exact rm_fit_s hs hK hO hok ok1 (e := 1) (by omega)) ?_
        refine Ex_if_eqB (fRt K P p i k) 113 d_rm_fits_106 rfl rfl (fun hc106 => ?_) (fun hc106 => ?_)
        · refine Ex_iconst d_rm_fits_113 ic_0 ?_
          refine Ex_istore [some (.ref 38), some (.int (nI (p))), some (.int (nI (sumL (lp P p) i + k))), some (.int (nI (i))), some (.int (nI ((pPat P p).getD i 0))), some (.int (nI (k))), some (.int (J ((gO (lp P p) i) + (((k : Nat) : Int))))), some (.int (eM (gX (lp P p) i k))), some (.int (0)), none] d_rm_fits_114 (Nat.le_of_ble_eq_true rfl) rfl ?_
          refine Ex_aload_n d_rm_fits_116 rfl ?_
          refine Ex_iload_n d_rm_fits_117 rfl ?_
          refine Ex_iload_n d_rm_fits_118 rfl ?_
          refine Ex_iconst d_rm_fits_119 ic_1 ?_
          refine Ex_iaddN (i) (1) d_rm_fits_120 rfl rfl ?_
          refine Ex_i2lZ (((i + 1 : Nat) : Int)) d_rm_fits_121 (nIJ _) (by omega) ?_
          refine Ex_iload d_rm_fits_122 rfl ?_
          refine Ex_i2lZ ((gO (lp P p) i) + (((k : Nat) : Int))) d_rm_fits_124 rfl (by omega) ?_
          refine Ex_pV3 (v := .int (bI ((cAt P p ((i : Int) + 1) (gO (lp P p) i + (k : Int))).isSome))) d_rm_fits_125 pk_rm_fits_204 (t_38 hs) (rm_has_s hs hP hQ hp (by omega) (by omega)) ?_
          refine Ex_if_eqB ((cAt P p ((i : Int) + 1) (gO (lp P p) i + (k : Int))).isSome) 151 d_rm_fits_128 rfl rfl (fun hc128 => ?_) (fun hc128 => ?_)
          · have hbw : fBw K P p i k = true := by unfold fBw; rw [show cAt P p ((i : Int) + 1) (gO (lp P p) i + (k : Int)) = none by cases z : cAt P p ((i : Int) + 1) (gO (lp P p) i + (k : Int)) with | none => rfl | some _ => rw [z] at hc128; cases hc128]; rfl
            refine Ex_iconst d_rm_fits_151 ic_1 ?_
            refine Ex_goto 156 d_rm_fits_152 rfl ?_
            refine Ex_istore [some (.ref 38), some (.int (nI (p))), some (.int (nI (sumL (lp P p) i + k))), some (.int (nI (i))), some (.int (nI ((pPat P p).getD i 0))), some (.int (nI (k))), some (.int (J ((gO (lp P p) i) + (((k : Nat) : Int))))), some (.int (eM (gX (lp P p) i k))), some (.int (0)), some (.int (1))] d_rm_fits_156 (Nat.le_of_ble_eq_true rfl) rfl ?_
            refine Ex_iload d_rm_fits_158 rfl ?_
            refine Ex_if_eqN (0) 168 d_rm_fits_160 rfl rfl (by omega) (fun hc160 => ?_) (fun hc160 => ?_)
            · refine Ex_iconst d_rm_fits_168 ic_1 ?_
              refine Ex_iconst d_rm_fits_169 ic_2 ?_
              refine Ex_iload_n d_rm_fits_170 rfl ?_
              refine Ex_imulN (2) (sumL (lp P p) i + k) d_rm_fits_171 rfl rfl ?_
              refine Ex_iaddN (1) (2 * (sumL (lp P p) i + k)) d_rm_fits_172 rfl rfl ?_
              refine Ex_iload d_rm_fits_173 rfl ?_
              refine Ex_if_eqN (0) 182 d_rm_fits_175 rfl rfl (by omega) (fun hc175 => ?_) (fun hc175 => ?_)
              · refine Ex_iconst d_rm_fits_182 ic_0 ?_
                refine Ex_iaddN (1 + (2 * (sumL (lp P p) i + k))) (0) d_rm_fits_183 rfl rfl ?_
                refine Ex_ireturn d_rm_fits_184 rfl ?_
                have hR : fRt K P p i k = false := by first | exact hc106 | exact hrt
                have hfc : fCell K P p i k = some (1 + 2 * ((sumL (lp P p) i + k : Nat) : Int) + (0)) := by
                  unfold fCell
                  rw [if_neg (by rintro ⟨q1, q2⟩; rw [q1] at hR; cases hR), hR]
                  rfl
                have z := kz _ (first_s hfc d)
                rw [show 1 + 2 * ((sumL (lp P p) i + k : Nat) : Int) + (0) = ((1 + 2 * (sumL (lp P p) i + k) + 0 : Nat) : Int) by omega, ← nIJ] at z
                exact z
              · exact absurd hc175 (by decide)
            · exact absurd hc160 (by decide)
          · obtain ⟨c2, hq2⟩ := Option.isSome_iff_exists.mp hc128
            have ok2 : okT K.1 c2 := by have z2 : okA K.1 (cAt P p ((i : Int) + 1) (gO (lp P p) i + (k : Int))) := cAt_ok hQ hp; rw [hq2] at z2; exact z2
            have hbw : fBw K P p i k = fitT K (gX (lp P p) i k) c2 2 := by unfold fBw; rw [hq2]; rfl
            refine Ex_aload_n d_rm_fits_131 rfl ?_
            refine Ex_iload d_rm_fits_132 rfl ?_
            refine Ex_aload_n d_rm_fits_134 rfl ?_
            refine Ex_iload_n d_rm_fits_135 rfl ?_
            refine Ex_iload_n d_rm_fits_136 rfl ?_
            refine Ex_iconst d_rm_fits_137 ic_1 ?_
            refine Ex_iaddN (i) (1) d_rm_fits_138 rfl rfl ?_
            refine Ex_iload d_rm_fits_139 rfl ?_
            refine Ex_pV3 (v := .int (eM c2)) d_rm_fits_141 pk_rm_fits_212 (t_38 hs) (show Cl S rm_cellAt [.ref 38, .int (nI p), .int (nI (i + 1)), .int (J ((gO (lp P p) i) + (((k : Nat) : Int))))] h _ by rw [nIJ (i + 1)]; exact rm_cellAt_s hs hP hQ hp (by rw [← hq2]; congr 1)) ?_
            refine Ex_iconst d_rm_fits_144 ic_2 ?_
            refine Ex_pV3 (v := .int (bI (fBw K P p i k))) d_rm_fits_145 pk_rm_fits_263 (t_38 hs) (by rw [hbw]; exact rm_fit_s hs hK hO hok ok2 (e := 2) (by omega)) ?_
            refine Ex_if_eqB (fBw K P p i k) 155 d_rm_fits_148 rfl rfl (fun hc148 => ?_) (fun hc148 => ?_)
            · refine Ex_iconst d_rm_fits_155 ic_0 ?_
              refine Ex_istore [some (.ref 38), some (.int (nI (p))), some (.int (nI (sumL (lp P p) i + k))), some (.int (nI (i))), some (.int (nI ((pPat P p).getD i 0))), some (.int (nI (k))), some (.int (J ((gO (lp P p) i) + (((k : Nat) : Int))))), some (.int (eM (gX (lp P p) i k))), some (.int (0)), some (.int (0))] d_rm_fits_156 (Nat.le_of_ble_eq_true rfl) rfl ?_
              refine Ex_iload d_rm_fits_158 rfl ?_
              refine Ex_if_eqN (0) 168 d_rm_fits_160 rfl rfl (by omega) (fun hc160 => ?_) (fun hc160 => ?_)
              · refine Ex_iconst d_rm_fits_168 ic_1 ?_
                refine Ex_iconst d_rm_fits_169 ic_2 ?_
                refine Ex_iload_n d_rm_fits_170 rfl ?_
                refine Ex_imulN (2) (sumL (lp P p) i + k) d_rm_fits_171 rfl rfl ?_
                refine Ex_iaddN (1) (2 * (sumL (lp P p) i + k)) d_rm_fits_172 rfl rfl ?_
                refine Ex_iload d_rm_fits_173 rfl ?_
                refine Ex_if_eqN (0) 182 d_rm_fits_175 rfl rfl (by omega) (fun hc175 => ?_) (fun hc175 => ?_)
                · refine Ex_iconst d_rm_fits_182 ic_0 ?_
                  refine Ex_iaddN (1 + (2 * (sumL (lp P p) i + k))) (0) d_rm_fits_183 rfl rfl ?_
                  refine Ex_ireturn d_rm_fits_184 rfl ?_
                  have hR : fRt K P p i k = false := by first | exact hc106 | exact hrt
                  have hfc : fCell K P p i k = some (1 + 2 * ((sumL (lp P p) i + k : Nat) : Int) + (0)) := by
                    unfold fCell
                    rw [if_neg (by rintro ⟨q1, q2⟩; rw [q1] at hR; cases hR), hR]
                    rfl
                  have z := kz _ (first_s hfc d)
                  rw [show 1 + 2 * ((sumL (lp P p) i + k : Nat) : Int) + (0) = ((1 + 2 * (sumL (lp P p) i + k) + 0 : Nat) : Int) by omega, ← nIJ] at z
                  exact z
                · exact absurd hc175 (by decide)
              · exact absurd hc160 (by decide)
            · refine Ex_iconst d_rm_fits_151 ic_1 ?_
              refine Ex_goto 156 d_rm_fits_152 rfl ?_
              refine Ex_istore [some (.ref 38), some (.int (nI (p))), some (.int (nI (sumL (lp P p) i + k))), some (.int (nI (i))), some (.int (nI ((pPat P p).getD i 0))), some (.int (nI (k))), some (.int (J ((gO (lp P p) i) + (((k : Nat) : Int))))), some (.int (eM (gX (lp P p) i k))), some (.int (0)), some (.int (1))] d_rm_fits_156 (Nat.le_of_ble_eq_true rfl) rfl ?_
              refine Ex_iload d_rm_fits_158 rfl ?_
              refine Ex_if_eqN (0) 168 d_rm_fits_160 rfl rfl (by omega) (fun hc160 => ?_) (fun hc160 => ?_)
              · refine Ex_iconst d_rm_fits_168 ic_1 ?_
                refine Ex_iconst d_rm_fits_169 ic_2 ?_
                refine Ex_iload_n d_rm_fits_170 rfl ?_
                refine Ex_imulN (2) (sumL (lp P p) i + k) d_rm_fits_171 rfl rfl ?_
                refine Ex_iaddN (1) (2 * (sumL (lp P p) i + k)) d_rm_fits_172 rfl rfl ?_
                refine Ex_iload d_rm_fits_173 rfl ?_
                refine Ex_if_eqN (0) 182 d_rm_fits_175 rfl rfl (by omega) (fun hc175 => ?_) (fun hc175 => ?_)
                · refine Ex_iconst d_rm_fits_182 ic_0 ?_
                  refine Ex_iaddN (1 + (2 * (sumL (lp P p) i + k))) (0) d_rm_fits_183 rfl rfl ?_
                  refine Ex_ireturn d_rm_fits_184 rfl ?_
                  have hR : fRt K P p i k = false := by first | exact hc106 | exact hrt
                  have hfc : fCell K P p i k = some (1 + 2 * ((sumL (lp P p) i + k : Nat) : Int) + (0)) := by
                    unfold fCell
                    rw [if_neg (by rintro ⟨q1, q2⟩; rw [q1] at hR; cases hR), hR]
                    rfl
                  have z := kz _ (first_s hfc d)
                  rw [show 1 + 2 * ((sumL (lp P p) i + k : Nat) : Int) + (0) = ((1 + 2 * (sumL (lp P p) i + k) + 0 : Nat) : Int) by omega, ← nIJ] at z
                  exact z
                · exact absurd hc175 (by decide)
              · exact absurd hc160 (by decide)
        · refine Ex_iconst d_rm_fits_109 ic_1 ?_
          refine Ex_goto 114 d_rm_fits_110 rfl ?_
          refine Ex_istore [some (.ref 38), some (.int (nI (p))), some (.int (nI (sumL (lp P p) i + k))), some (.int (nI (i))), some (.int (nI ((pPat P p).getD i 0))), some (.int (nI (k))), some (.int (J ((gO (lp P p) i) + (((k : Nat) : Int))))), some (.int (eM (gX (lp P p) i k))), some (.int (1)), none] d_rm_fits_114 (Nat.le_of_ble_eq_true rfl) rfl ?_
          refine Ex_aload_n d_rm_fits_116 rfl ?_
          refine Ex_iload_n d_rm_fits_117 rfl ?_
          refine Ex_iload_n d_rm_fits_118 rfl ?_
          refine Ex_iconst d_rm_fits_119 ic_1 ?_
          refine Ex_iaddN (i) (1) d_rm_fits_120 rfl rfl ?_
          refine Ex_i2lZ (((i + 1 : Nat) : Int)) d_rm_fits_121 (nIJ _) (by omega) ?_
          refine Ex_iload d_rm_fits_122 rfl ?_
          refine Ex_i2lZ ((gO (lp P p) i) + (((k : Nat) : Int))) d_rm_fits_124 rfl (by omega) ?_
          refine Ex_pV3 (v := .int (bI ((cAt P p ((i : Int) + 1) (gO (lp P p) i + (k : Int))).isSome))) d_rm_fits_125 pk_rm_fits_204 (t_38 hs) (rm_has_s hs hP hQ hp (by omega) (by omega)) ?_
          refine Ex_if_eqB ((cAt P p ((i : Int) + 1) (gO (lp P p) i + (k : Int))).isSome) 151 d_rm_fits_128 rfl rfl (fun hc128 => ?_) (fun hc128 => ?_)
          · have hbw : fBw K P p i k = true := by unfold fBw; rw [show cAt P p ((i : Int) + 1) (gO (lp P p) i + (k : Int)) = none by cases z : cAt P p ((i : Int) + 1) (gO (lp P p) i + (k : Int)) with | none => rfl | some _ => rw [z] at hc128; cases hc128]; rfl
            refine Ex_iconst d_rm_fits_151 ic_1 ?_
            refine Ex_goto 156 d_rm_fits_152 rfl ?_
            refine Ex_istore [some (.ref 38), some (.int (nI (p))), some (.int (nI (sumL (lp P p) i + k))), some (.int (nI (i))), some (.int (nI ((pPat P p).getD i 0))), some (.int (nI (k))), some (.int (J ((gO (lp P p) i) + (((k : Nat) : Int))))), some (.int (eM (gX (lp P p) i k))), some (.int (1)), some (.int (1))] d_rm_fits_156 (Nat.le_of_ble_eq_true rfl) rfl ?_
            refine Ex_iload d_rm_fits_158 rfl ?_
            refine Ex_if_eqN (1) 168 d_rm_fits_160 rfl rfl (by omega) (fun hc160 => ?_) (fun hc160 => ?_)
            · exact absurd hc160 (by decide)
            · refine Ex_iload d_rm_fits_163 rfl ?_
              refine Ex_if_neN (1) 185 d_rm_fits_165 rfl rfl (by omega) (fun hc165 => ?_) (fun hc165 => ?_)
              · refine Ex_iincN (sumL (lp P p) i + k) 1 [some (.ref 38), some (.int (nI (p))), some (.int (nI ((sumL (lp P p) i + k) + 1))), some (.int (nI (i))), some (.int (nI ((pPat P p).getD i 0))), some (.int (nI (k))), some (.int (J ((gO (lp P p) i) + (((k : Nat) : Int))))), some (.int (eM (gX (lp P p) i k))), some (.int (1)), some (.int (1))] d_rm_fits_185 rfl rfl rfl rfl ?_
                refine Ex_iincN (k) 1 [some (.ref 38), some (.int (nI (p))), some (.int (nI ((sumL (lp P p) i + k) + 1))), some (.int (nI (i))), some (.int (nI ((pPat P p).getD i 0))), some (.int (nI (k + 1))), some (.int (J ((gO (lp P p) i) + (((k : Nat) : Int))))), some (.int (eM (gX (lp P p) i k))), some (.int (1)), some (.int (1))] d_rm_fits_188 rfl rfl rfl rfl ?_
                refine Ex_goto 35 d_rm_fits_191 rfl ?_
                refine Ex_forget (ls' := [some (.ref 38), some (.int (nI (p))), some (.int (nI ((sumL (lp P p) i + k) + 1))), some (.int (nI (i))), some (.int (nI ((pPat P p).getD i 0))), some (.int (nI (k + 1))), none, none, none, none]) (sub_s (sub_s (sub_s (sub_s (sub_s (sub_s (sub_n (sub_n (sub_n (sub_n sub_0)))))))))) ?_
                have hR : fRt K P p i k = true := by first | exact hc106 | exact hrt
                have hBw : fBw K P p i k = true := by first | exact hc148 | exact hbw
                have hfc : fCell K P p i k = none := by unfold fCell; rw [if_pos ⟨hR, hBw⟩]
                rw [first_n hfc] at kz kx
                rw [Nat.add_assoc]
                exact ih (k + 1) (by omega) kz kx
              · exact absurd hc165 (by decide)
          · obtain ⟨c2, hq2⟩ := Option.isSome_iff_exists.mp hc128
            have ok2 : okT K.1 c2 := by have z2 : okA K.1 (cAt P p ((i : Int) + 1) (gO (lp P p) i + (k : Int))) := cAt_ok hQ hp; rw [hq2] at z2; exact z2
            have hbw : fBw K P p i k = fitT K (gX (lp P p) i k) c2 2 := by unfold fBw; rw [hq2]; rfl
            refine Ex_aload_n d_rm_fits_131 rfl ?_
            refine Ex_iload d_rm_fits_132 rfl ?_
            refine Ex_aload_n d_rm_fits_134 rfl ?_
            refine Ex_iload_n d_rm_fits_135 rfl ?_
            refine Ex_iload_n d_rm_fits_136 rfl ?_
            refine Ex_iconst d_rm_fits_137 ic_1 ?_
            refine Ex_iaddN (i) (1) d_rm_fits_138 rfl rfl ?_
            refine Ex_iload d_rm_fits_139 rfl ?_
            refine Ex_pV3 (v := .int (eM c2)) d_rm_fits_141 pk_rm_fits_212 (t_38 hs) (show Cl S rm_cellAt [.ref 38, .int (nI p), .int (nI (i + 1)), .int (J ((gO (lp P p) i) + (((k : Nat) : Int))))] h _ by rw [nIJ (i + 1)]; exact rm_cellAt_s hs hP hQ hp (by rw [← hq2]; congr 1)) ?_
            refine Ex_iconst d_rm_fits_144 ic_2 ?_
            refine Ex_pV3 (v := .int (bI (fBw K P p i k))) d_rm_fits_145 pk_rm_fits_263 (t_38 hs) (by rw [hbw]; exact rm_fit_s hs hK hO hok ok2 (e := 2) (by omega)) ?_
            refine Ex_if_eqB (fBw K P p i k) 155 d_rm_fits_148 rfl rfl (fun hc148 => ?_) (fun hc148 => ?_)
            · refine Ex_iconst d_rm_fits_155 ic_0 ?_
              refine Ex_istore [some (.ref 38), some (.int (nI (p))), some (.int (nI (sumL (lp P p) i + k))), some (.int (nI (i))), some (.int (nI ((pPat P p).getD i 0))), some (.int (nI (k))), some (.int (J ((gO (lp P p) i) + (((k : Nat) : Int))))), some (.int (eM (gX (lp P p) i k))), some (.int (1)), some (.int (0))] d_rm_fits_156 (Nat.le_of_ble_eq_true rfl) rfl ?_
              refine Ex_iload d_rm_fits_158 rfl ?_
              refine Ex_if_eqN (1) 168 d_rm_fits_160 rfl rfl (by omega) (fun hc160 => ?_) (fun hc160 => ?_)
              · exact absurd hc160 (by decide)
              · refine Ex_iload d_rm_fits_163 rfl ?_
                refine Ex_if_neN (0) 185 d_rm_fits_165 rfl rfl (by omega) (fun hc165 => ?_) (fun hc165 => ?_)
                · exact absurd hc165 (by decide)
                · refine Ex_iconst d_rm_fits_168 ic_1 ?_
                  refine Ex_iconst d_rm_fits_169 ic_2 ?_
                  refine Ex_iload_n d_rm_fits_170 rfl ?_
                  refine Ex_imulN (2) (sumL (lp P p) i + k) d_rm_fits_171 rfl rfl ?_
                  refine Ex_iaddN (1) (2 * (sumL (lp P p) i + k)) d_rm_fits_172 rfl rfl ?_
                  refine Ex_iload d_rm_fits_173 rfl ?_
                  refine Ex_if_eqN (1) 182 d_rm_fits_175 rfl rfl (by omega) (fun hc175 => ?_) (fun hc175 => ?_)
                  · exact absurd hc175 (by decide)
                  · refine Ex_iconst d_rm_fits_178 ic_1 ?_
                    refine Ex_goto 183 d_rm_fits_179 rfl ?_
                    refine Ex_iaddN (1 + (2 * (sumL (lp P p) i + k))) (1) d_rm_fits_183 rfl rfl ?_
                    refine Ex_ireturn d_rm_fits_184 rfl ?_
                    have hR : fRt K P p i k = true := by first | exact hc106 | exact hrt
                    have hBw : fBw K P p i k = false := by first | exact hc148 | exact hbw
                    have hfc : fCell K P p i k = some (1 + 2 * ((sumL (lp P p) i + k : Nat) : Int) + (1)) := by
                      unfold fCell
                      rw [if_neg (by rintro ⟨q1, q2⟩; rw [q2] at hBw; cases hBw), hR]
                      rfl
                    have z := kz _ (first_s hfc d)
                    rw [show 1 + 2 * ((sumL (lp P p) i + k : Nat) : Int) + (1) = ((1 + 2 * (sumL (lp P p) i + k) + 1 : Nat) : Int) by omega, ← nIJ] at z
                    exact z
            · refine Ex_iconst d_rm_fits_151 ic_1 ?_
              refine Ex_goto 156 d_rm_fits_152 rfl ?_
              refine Ex_istore [some (.ref 38), some (.int (nI (p))), some (.int (nI (sumL (lp P p) i + k))), some (.int (nI (i))), some (.int (nI ((pPat P p).getD i 0))), some (.int (nI (k))), some (.int (J ((gO (lp P p) i) + (((k : Nat) : Int))))), some (.int (eM (gX (lp P p) i k))), some (.int (1)), some (.int (1))] d_rm_fits_156 (Nat.le_of_ble_eq_true rfl) rfl ?_
              refine Ex_iload d_rm_fits_158 rfl ?_
              refine Ex_if_eqN (1) 168 d_rm_fits_160 rfl rfl (by omega) (fun hc160 => ?_) (fun hc160 => ?_)
              · exact absurd hc160 (by decide)
              · refine Ex_iload d_rm_fits_163 rfl ?_
                refine Ex_if_neN (1) 185 d_rm_fits_165 rfl rfl (by omega) (fun hc165 => ?_) (fun hc165 => ?_)
                · refine Ex_iincN (sumL (lp P p) i + k) 1 [some (.ref 38), some (.int (nI (p))), some (.int (nI ((sumL (lp P p) i + k) + 1))), some (.int (nI (i))), some (.int (nI ((pPat P p).getD i 0))), some (.int (nI (k))), some (.int (J ((gO (lp P p) i) + (((k : Nat) : Int))))), some (.int (eM (gX (lp P p) i k))), some (.int (1)), some (.int (1))] d_rm_fits_185 rfl rfl rfl rfl ?_
                  refine Ex_iincN (k) 1 [some (.ref 38), some (.int (nI (p))), some (.int (nI ((sumL (lp P p) i + k) + 1))), some (.int (nI (i))), some (.int (nI ((pPat P p).getD i 0))), some (.int (nI (k + 1))), some (.int (J ((gO (lp P p) i) + (((k : Nat) : Int))))), some (.int (eM (gX (lp P p) i k))), some (.int (1)), some (.int (1))] d_rm_fits_188 rfl rfl rfl rfl ?_
                  refine Ex_goto 35 d_rm_fits_191 rfl ?_
                  refine Ex_forget (ls' := [some (.ref 38), some (.int (nI (p))), some (.int (nI ((sumL (lp P p) i + k) + 1))), some (.int (nI (i))), some (.int (nI ((pPat P p).getD i 0))), some (.int (nI (k + 1))), none, none, none, none]) (sub_s (sub_s (sub_s (sub_s (sub_s (sub_s (sub_n (sub_n (sub_n (sub_n sub_0)))))))))) ?_
                  have hR : fRt K P p i k = true := by first | exact hc106 | exact hrt
                  have hBw : fBw K P p i k = true := by first | exact hc148 | exact hbw
                  have hfc : fCell K P p i k = none := by unfold fCell; rw [if_pos ⟨hR, hBw⟩]
                  rw [first_n hfc] at kz kx
                  rw [Nat.add_assoc]
                  exact ih (k + 1) (by omega) kz kx
                · exact absurd hc165 (by decide)
theorem rm_fits_L2 {S : mj_S} {Q : Option Value → mj_H → Prop} {h : mj_H} (hs : HT h) {K : SK} (hK : KM K h) (hO : KO K) {P : SP} (hP : PM P h) (hQ : PO K.1 P) {p : Nat} (hp : p < pNp P) : ∀ d i : Nat, i + d = (pPat P p).length → (∀ v, first (fRow K P p) d i = some v → Q (some (.int (J v))) h) → (first (fRow K P p) d i = none → Q (some (.int 0)) h) → Ex S rm_fits 14 [some (.ref 38), some (.int (nI (p))), some (.int (nI (sumL (lp P p) i))), some (.int (nI (i))), none, none, none, none, none, none] [] h Q := by
  have hokl := hQ.2.2.2.1 p hp
  have hl60 := hokl.1
  have hLO : LO K.1 (lp P p) := lv0_ok hQ hokl
  have hmd : pMd P ≤ 6000 := hQ.1
  have hnp := hQ.2.2.1
  have hk40 := hO.1
  intro d
  induction d with
  | zero =>
    intro i hii kz kx
    obtain rfl : (pPat P p).length = i := by omega
    refine Ex_iload_n d_rm_fits_14 rfl ?_
    refine Ex_aload_n d_rm_fits_15 rfl ?_
    refine Ex_getR (v := .ref 48) d_rm_fits_16 pf_rm_40 rfl (t_38 hs) (r_38_11 hs) ?_
    refine Ex_iload_n d_rm_fits_19 rfl ?_
    refine Ex_ialoadN (a := p) (y := (nI ((pPat P p).length))) d_rm_fits_20 (t_48 hs) rfl (by omega) (by decide) (hP.2.1.2 p hp).1 ?_
    refine Ex_icmp_geN ((pPat P p).length) ((pPat P p).length) 200 d_rm_fits_21 rfl rfl rfl (by omega) (by omega) (fun hc21 => ?_) (fun hc21 => ?_)
    · refine Ex_iconst d_rm_fits_200 ic_0 ?_
      refine Ex_ireturn d_rm_fits_201 rfl ?_
      exact kx rfl
    · exfalso; omega
  | succ d ih =>
    intro i hii kz kx
    have hi : i < (pPat P p).length := by omega
    refine Ex_iload_n d_rm_fits_14 rfl ?_
    refine Ex_aload_n d_rm_fits_15 rfl ?_
    refine Ex_getR (v := .ref 48) d_rm_fits_16 pf_rm_40 rfl (t_38 hs) (r_38_11 hs) ?_
    refine Ex_iload_n d_rm_fits_19 rfl ?_
    refine Ex_ialoadN (a := p) (y := (nI ((pPat P p).length))) d_rm_fits_20 (t_48 hs) rfl (by omega) (by decide) (hP.2.1.2 p hp).1 ?_
    refine Ex_icmp_geN (i) ((pPat P p).length) 200 d_rm_fits_21 rfl rfl rfl (by omega) (by omega) (fun hc21 => ?_) (fun hc21 => ?_)
    · exfalso; omega
    · refine Ex_aload_n d_rm_fits_24 rfl ?_
      refine Ex_iload_n d_rm_fits_25 rfl ?_
      refine Ex_iload_n d_rm_fits_26 rfl ?_
      refine Ex_pV2 (v := .int (nI ((pPat P p).getD i 0))) d_rm_fits_27 pk_rm_fits_175 (t_38 hs) (rm_rowOf_p hs hP.2.1 hQ hp hi) ?_
      refine Ex_istore [some (.ref 38), some (.int (nI (p))), some (.int (nI (sumL (lp P p) i))), some (.int (nI (i))), some (.int (nI ((pPat P p).getD i 0))), none, none, none, none, none] d_rm_fits_30 (Nat.le_of_ble_eq_true rfl) rfl ?_
      refine Ex_iconst d_rm_fits_32 ic_0 ?_
      refine Ex_istore [some (.ref 38), some (.int (nI (p))), some (.int (nI (sumL (lp P p) i))), some (.int (nI (i))), some (.int (nI ((pPat P p).getD i 0))), some (.int (0)), none, none, none, none] d_rm_fits_33 (Nat.le_of_ble_eq_true rfl) rfl ?_
      refine rm_fits_L1 hs hK hO hP hQ hp hi (gL (lp P p) i) 0 (by omega) (fun v hv => kz v (first_s (f := fRow K P p) hv d)) (fun hn => ?_)
      have hn : fRow K P p i = none := hn
      refine Ex_iincN (i) 1 [some (.ref 38), some (.int (nI (p))), some (.int (nI (sumL (lp P p) i + (gL (lp P p) i)))), some (.int (nI (i + 1))), some (.int (nI ((pPat P p).getD i 0))), some (.int (nI (gL (lp P p) i))), none, none, none, none] d_rm_fits_194 rfl rfl rfl rfl ?_
      refine Ex_goto 14 d_rm_fits_197 rfl ?_
      refine Ex_forget (ls' := [some (.ref 38), some (.int (nI (p))), some (.int (nI (sumL (lp P p) i + (gL (lp P p) i)))), some (.int (nI (i + 1))), none, none, none, none, none, none]) (sub_s (sub_s (sub_s (sub_s (sub_n (sub_n (sub_n (sub_n (sub_n (sub_n sub_0)))))))))) ?_
      rw [first_n hn] at kz kx
      exact ih (i + 1) (by omega) kz kx
theorem rm_fits_s {S : mj_S} {h : mj_H} (hs : HT h) {K : SK} (hK : KM K h) (hO : KO K) {P : SP} (hP : PM P h) (hQ : PO K.1 P) {p : Int} (hp : -2147483648 ≤ p ∧ p < 2147483648) : Cl S rm_fits [.ref 38, .int (J (p))] h (Pu (.int (J (fitsS K P p))) h) := by
  show Ex S rm_fits 0 [some (.ref 38), some (.int (J (p))), none, none, none, none, none, none, none, none] [] h _
  refine Ex_aload_n d_rm_fits_0 rfl ?_
  refine Ex_iload_n d_rm_fits_1 rfl ?_
  refine Ex_pV1 (v := .int (bI (decide (0 ≤ p ∧ p < pNp P)))) d_rm_fits_2 pk_rm_fits_187 (t_38 hs) (rm_isPattern_s hs hP.2.1 hQ.2.2.1 hp) ?_
  refine Ex_if_neB (decide (0 ≤ p ∧ p < pNp P)) 10 d_rm_fits_5 rfl rfl (fun hc5 => ?_) (fun hc5 => ?_)
  · rw [decide_eq_true_eq] at hc5
    obtain ⟨a, rfl⟩ : ∃ a : Nat, p = (a : Int) := ⟨p.toNat, by omega⟩
    simp only [← nIJ]
    refine Ex_iconst d_rm_fits_10 ic_0 ?_
    refine Ex_istore_n [some (.ref 38), some (.int (nI (a))), some (.int (0)), none, none, none, none, none, none, none] d_rm_fits_11 (Nat.le_of_ble_eq_true rfl) rfl ?_
    refine Ex_iconst d_rm_fits_12 ic_0 ?_
    refine Ex_istore_n [some (.ref 38), some (.int (nI (a))), some (.int (0)), some (.int (0)), none, none, none, none, none, none] d_rm_fits_13 (Nat.le_of_ble_eq_true rfl) rfl ?_
    refine rm_fits_L2 hs hK hO hP hQ (p := a) (by omega) (pPat P a).length 0 (by omega) (fun v hv => Pu_z ?_) (fun hn => Pu_zc ?_)
    · unfold fitsS
      rw [if_pos (by omega), Int.toNat_natCast, hv]
      rfl
    · unfold fitsS
      rw [if_pos (by omega), Int.toNat_natCast, hn]
      rfl
  · rw [decide_eq_false_iff_not] at hc5
    refine Ex_iconst d_rm_fits_8 ic_m1 ?_
    refine Ex_ireturn d_rm_fits_9 rfl ?_
    exact Pu_m1 (by unfold fitsS; rw [if_neg (by omega)])
theorem rm_cg_L1 {S : mj_S} {Q : Option Value → mj_H → Prop} {h : mj_H} (hs : HT h) {K : SK} (hK : KM K h) (hO : KO K) {P : SP} (hP : PM P h) (hQ : PO K.1 P) {p : Nat} (hp : p < pNp P) {d o : Nat} (hd : d ≤ 60) (ho : o ≤ 60) {i : Nat} (hi : i < (pPat P p).length) (kz : ¬ cgP P p d o → Q (some (.int 0)) h)
    (kx : (∀ k, k < gL (lp P p) i → (cAt P p ((i : Int) + (d : Int)) (gO (lp P p) i + (k : Int) + (o : Int)) = none ∨ cAt P p ((i : Int) + (d : Int)) (gO (lp P p) i + (k : Int) + (o : Int)) = some (gX (lp P p) i k))) → Ex S rm_comesAgain 105 [some (.ref 38), some (.int (nI (p))), some (.int (nI (d))), some (.int (nI (o))), some (.int (nI (i))), some (.int (nI ((pPat P p).getD i 0))), some (.int (nI (gL (lp P p) i))), none] [] h Q) : ∀ e k : Nat, k + e = gL (lp P p) i → (∀ k1, k1 < k → (cAt P p ((i : Int) + (d : Int)) (gO (lp P p) i + (k1 : Int) + (o : Int)) = none ∨ cAt P p ((i : Int) + (d : Int)) (gO (lp P p) i + (k1 : Int) + (o : Int)) = some (gX (lp P p) i k1))) → Ex S rm_comesAgain 26 [some (.ref 38), some (.int (nI (p))), some (.int (nI (d))), some (.int (nI (o))), some (.int (nI (i))), some (.int (nI ((pPat P p).getD i 0))), some (.int (nI (k))), none] [] h Q := by
  have hokl := hQ.2.2.2.1 p hp
  have hl60 := hokl.1
  have hLO : LO K.1 (lp P p) := lv0_ok hQ hokl
  have hmd : pMd P ≤ 6000 := hQ.1
  have hnp := hQ.2.2.1
  have hk40 := hO.1
  have hrow := PO_row hQ hp hi
  have hli := (hLO.2 i hi).1
  obtain ⟨c1, c2, c3⟩ := hP.1.2 _ hrow
  intro e
  induction e with
  | zero =>
    intro k hkk hev
    obtain rfl : gL (lp P p) i = k := by omega
    refine Ex_iload d_rm_comesAgain_26 rfl ?_
    refine Ex_aload_n d_rm_comesAgain_28 rfl ?_
    refine Ex_getR (v := .ref 44) d_rm_comesAgain_29 pf_rm_27 rfl (t_38 hs) (r_38_6 hs) ?_
    refine Ex_iload d_rm_comesAgain_32 rfl ?_
    refine Ex_ialoadN (a := (pPat P p).getD i 0) (y := (nI (gL (lp P p) i))) d_rm_comesAgain_34 (t_44 hs) rfl (by omega) (by decide) c1 ?_
    refine Ex_icmp_geN (gL (lp P p) i) (gL (lp P p) i) 105 d_rm_comesAgain_35 rfl rfl rfl (by omega) (by omega) (fun hc35 => ?_) (fun hc35 => ?_)
    · exact kx hev
    · exfalso; omega
  | succ e ih =>
    intro k hkk hev
    have hkl : k < gL (lp P p) i := by omega
    have hok := (hLO.2 i hi).2 k hkl
    refine Ex_iload d_rm_comesAgain_26 rfl ?_
    refine Ex_aload_n d_rm_comesAgain_28 rfl ?_
    refine Ex_getR (v := .ref 44) d_rm_comesAgain_29 pf_rm_27 rfl (t_38 hs) (r_38_6 hs) ?_
    refine Ex_iload d_rm_comesAgain_32 rfl ?_
    refine Ex_ialoadN (a := (pPat P p).getD i 0) (y := (nI (gL (lp P p) i))) d_rm_comesAgain_34 (t_44 hs) rfl (by omega) (by decide) c1 ?_
    refine Ex_icmp_geN (k) (gL (lp P p) i) 105 d_rm_comesAgain_35 rfl rfl rfl (by omega) (by omega) (fun hc35 => ?_) (fun hc35 => ?_)
    · exfalso; omega
    · refine Ex_aload_n d_rm_comesAgain_38 rfl ?_
      refine Ex_getR (v := .ref 45) d_rm_comesAgain_39 pf_rm_30 rfl (t_38 hs) (r_38_7 hs) ?_
      refine Ex_iload d_rm_comesAgain_42 rfl ?_
      refine Ex_ialoadN (a := (pPat P p).getD i 0) (y := (J (gO (lp P p) i))) d_rm_comesAgain_44 (t_45 hs) rfl (by omega) (by decide) c2 ?_
      refine Ex_iload d_rm_comesAgain_45 rfl ?_
      refine Ex_iaddZ (gO (lp P p) i) (((k : Nat) : Int)) d_rm_comesAgain_47 rfl (nIJ _) ?_
      refine Ex_istore [some (.ref 38), some (.int (nI (p))), some (.int (nI (d))), some (.int (nI (o))), some (.int (nI (i))), some (.int (nI ((pPat P p).getD i 0))), some (.int (nI (k))), some (.int (J ((gO (lp P p) i) + (((k : Nat) : Int)))))] d_rm_comesAgain_48 (Nat.le_of_ble_eq_true rfl) rfl ?_
      refine Ex_aload_n d_rm_comesAgain_50 rfl ?_
      refine Ex_iload_n d_rm_comesAgain_51 rfl ?_
      refine Ex_iload d_rm_comesAgain_52 rfl ?_
      refine Ex_iload_n d_rm_comesAgain_54 rfl ?_
      refine Ex_iaddN (i) (d) d_rm_comesAgain_55 rfl rfl ?_
      refine Ex_i2lZ (((i + d : Nat) : Int)) d_rm_comesAgain_56 (nIJ _) (by omega) ?_
      refine Ex_iload d_rm_comesAgain_57 rfl ?_
      refine Ex_iload_n d_rm_comesAgain_59 rfl ?_
      refine Ex_iaddZ ((gO (lp P p) i) + (((k : Nat) : Int))) (((o : Nat) : Int)) d_rm_comesAgain_60 rfl (nIJ _) ?_
      refine Ex_i2lZ (((gO (lp P p) i) + (((k : Nat) : Int))) + (((o : Nat) : Int))) d_rm_comesAgain_61 rfl (by omega) ?_
      refine Ex_pV3 (v := .int (bI ((cAt P p ((i : Int) + (d : Int)) (gO (lp P p) i + (k : Int) + (o : Int))).isSome))) d_rm_comesAgain_62 pk_rm_comesAgain_204 (t_38 hs) (rm_has_s hs hP hQ hp (by omega) (by omega)) ?_
      refine Ex_if_eqB ((cAt P p ((i : Int) + (d : Int)) (gO (lp P p) i + (k : Int) + (o : Int))).isSome) 99 d_rm_comesAgain_65 rfl rfl (fun hc65 => ?_) (fun hc65 => ?_)
      · have hno : cAt P p ((i : Int) + (d : Int)) (gO (lp P p) i + (k : Int) + (o : Int)) = none := by cases z : cAt P p ((i : Int) + (d : Int)) (gO (lp P p) i + (k : Int) + (o : Int)) with | none => rfl | some _ => rw [z] at hc65; cases hc65
        refine Ex_iincN (k) 1 [some (.ref 38), some (.int (nI (p))), some (.int (nI (d))), some (.int (nI (o))), some (.int (nI (i))), some (.int (nI ((pPat P p).getD i 0))), some (.int (nI (k + 1))), some (.int (J ((gO (lp P p) i) + (((k : Nat) : Int)))))] d_rm_comesAgain_99 rfl rfl rfl rfl ?_
        refine Ex_goto 26 d_rm_comesAgain_102 rfl ?_
        refine Ex_forget (ls' := [some (.ref 38), some (.int (nI (p))), some (.int (nI (d))), some (.int (nI (o))), some (.int (nI (i))), some (.int (nI ((pPat P p).getD i 0))), some (.int (nI (k + 1))), none]) (sub_s (sub_s (sub_s (sub_s (sub_s (sub_s (sub_s (sub_n sub_0)))))))) ?_
        refine ih (k + 1) (by omega) (fun k' hk' => ?_)
        by_cases hkk2 : k' = k
        · rw [hkk2]
          first | exact Or.inl hno | (refine Or.inr ?_; rw [hq1, hinj.mp hc94])
        · exact hev k' (by omega)
      · obtain ⟨c1, hq1⟩ := Option.isSome_iff_exists.mp hc65
        have ok1 : okT K.1 c1 := by have z2 : okA K.1 (cAt P p ((i : Int) + (d : Int)) (gO (lp P p) i + (k : Int) + (o : Int))) := cAt_ok hQ hp; rw [hq1] at z2; exact z2
        have hinj := eM_inj (okT_mono ok1 hO.1) (okT_mono hok hO.1)
        refine Ex_aload_n d_rm_comesAgain_68 rfl ?_
        refine Ex_iload_n d_rm_comesAgain_69 rfl ?_
        refine Ex_iload d_rm_comesAgain_70 rfl ?_
        refine Ex_iload_n d_rm_comesAgain_72 rfl ?_
        refine Ex_iaddN (i) (d) d_rm_comesAgain_73 rfl rfl ?_
        refine Ex_iload d_rm_comesAgain_74 rfl ?_
        refine Ex_iload_n d_rm_comesAgain_76 rfl ?_
        refine Ex_iaddZ ((gO (lp P p) i) + (((k : Nat) : Int))) (((o : Nat) : Int)) d_rm_comesAgain_77 rfl (nIJ _) ?_
        refine Ex_pV3 (v := .int (eM c1)) d_rm_comesAgain_78 pk_rm_comesAgain_212 (t_38 hs) (show Cl S rm_cellAt [.ref 38, .int (nI p), .int (nI (i + d)), .int (J (gO (lp P p) i + (k : Int) + (o : Int)))] h _ by rw [nIJ (i + d)]; exact rm_cellAt_s hs hP hQ hp (by rw [← hq1]; congr 1)) ?_
        refine Ex_aload_n d_rm_comesAgain_81 rfl ?_
        refine Ex_getR (v := .ref 46) d_rm_comesAgain_82 pf_rm_34 rfl (t_38 hs) (r_38_8 hs) ?_
        refine Ex_bipush d_rm_comesAgain_85 bp_60 ?_
        refine Ex_iload d_rm_comesAgain_87 rfl ?_
        refine Ex_imulN (60) ((pPat P p).getD i 0) d_rm_comesAgain_89 rfl rfl ?_
        refine Ex_iload d_rm_comesAgain_90 rfl ?_
        refine Ex_iaddN (60 * ((pPat P p).getD i 0)) (k) d_rm_comesAgain_92 rfl rfl ?_
        refine Ex_ialoadN (a := (60 * ((pPat P p).getD i 0)) + k) (y := (eM (gX (lp P p) i k))) d_rm_comesAgain_93 (t_46 hs) rfl (by omega) (by decide) (c3 k (show k < gL (lp P p) i by omega)) ?_
        refine Ex_icmp_eq 99 d_rm_comesAgain_94 rfl (fun hc94 => ?_) (fun hc94 => ?_)
        · refine Ex_iincN (k) 1 [some (.ref 38), some (.int (nI (p))), some (.int (nI (d))), some (.int (nI (o))), some (.int (nI (i))), some (.int (nI ((pPat P p).getD i 0))), some (.int (nI (k + 1))), some (.int (J ((gO (lp P p) i) + (((k : Nat) : Int)))))] d_rm_comesAgain_99 rfl rfl rfl rfl ?_
          refine Ex_goto 26 d_rm_comesAgain_102 rfl ?_
          refine Ex_forget (ls' := [some (.ref 38), some (.int (nI (p))), some (.int (nI (d))), some (.int (nI (o))), some (.int (nI (i))), some (.int (nI ((pPat P p).getD i 0))), some (.int (nI (k + 1))), none]) (sub_s (sub_s (sub_s (sub_s (sub_s (sub_s (sub_s (sub_n sub_0)))))))) ?_
          refine ih (k + 1) (by omega) (fun k' hk' => ?_)
          by_cases hkk2 : k' = k
          · rw [hkk2]
            first | exact Or.inl hno | (refine Or.inr ?_; rw [hq1, hinj.mp hc94])
          · exact hev k' (by omega)
        · refine Ex_iconst d_rm_comesAgain_97 ic_0 ?_
          refine Ex_zreturn d_rm_comesAgain_98 rfl (by decide) ?_
          refine kz (fun z => ?_)
          rcases z i hi k hkl with z | z
          · rw [hq1] at z; cases z
          · rw [hq1] at z; cases z; exact hc94 rfl
theorem rm_cg_L2 {S : mj_S} {h : mj_H} (hs : HT h) {K : SK} (hK : KM K h) (hO : KO K) {P : SP} (hP : PM P h) (hQ : PO K.1 P) {p : Nat} (hp : p < pNp P) {d o : Nat} (hd : d ≤ 60) (ho : o ≤ 60) : ∀ e i : Nat, i + e = (pPat P p).length → (∀ i1, i1 < i → ∀ k, k < gL (lp P p) i1 → (cAt P p ((i1 : Int) + (d : Int)) (gO (lp P p) i1 + (k : Int) + (o : Int)) = none ∨ cAt P p ((i1 : Int) + (d : Int)) (gO (lp P p) i1 + (k : Int) + (o : Int)) = some (gX (lp P p) i1 k))) → Ex S rm_comesAgain 3 [some (.ref 38), some (.int (nI (p))), some (.int (nI (d))), some (.int (nI (o))), some (.int (nI (i))), none, none, none] [] h (PuB (cgP P p d o) h) := by
  have hokl := hQ.2.2.2.1 p hp
  have hl60 := hokl.1
  have hLO : LO K.1 (lp P p) := lv0_ok hQ hokl
  have hmd : pMd P ≤ 6000 := hQ.1
  have hnp := hQ.2.2.1
  have hk40 := hO.1
  intro e
  induction e with
  | zero =>
    intro i hii hev
    obtain rfl : (pPat P p).length = i := by omega
    refine Ex_iload d_rm_comesAgain_3 rfl ?_
    refine Ex_aload_n d_rm_comesAgain_5 rfl ?_
    refine Ex_getR (v := .ref 48) d_rm_comesAgain_6 pf_rm_40 rfl (t_38 hs) (r_38_11 hs) ?_
    refine Ex_iload_n d_rm_comesAgain_9 rfl ?_
    refine Ex_ialoadN (a := p) (y := (nI ((pPat P p).length))) d_rm_comesAgain_10 (t_48 hs) rfl (by omega) (by decide) (hP.2.1.2 p hp).1 ?_
    refine Ex_icmp_geN ((pPat P p).length) ((pPat P p).length) 111 d_rm_comesAgain_11 rfl rfl rfl (by omega) (by omega) (fun hc11 => ?_) (fun hc11 => ?_)
    · refine Ex_iconst d_rm_comesAgain_111 ic_1 ?_
      refine Ex_zreturn d_rm_comesAgain_112 rfl (by decide) ?_
      exact PuB_t hev
    · exfalso; omega
  | succ e ih =>
    intro i hii hev
    have hi : i < (pPat P p).length := by omega
    refine Ex_iload d_rm_comesAgain_3 rfl ?_
    refine Ex_aload_n d_rm_comesAgain_5 rfl ?_
    refine Ex_getR (v := .ref 48) d_rm_comesAgain_6 pf_rm_40 rfl (t_38 hs) (r_38_11 hs) ?_
    refine Ex_iload_n d_rm_comesAgain_9 rfl ?_
    refine Ex_ialoadN (a := p) (y := (nI ((pPat P p).length))) d_rm_comesAgain_10 (t_48 hs) rfl (by omega) (by decide) (hP.2.1.2 p hp).1 ?_
    refine Ex_icmp_geN (i) ((pPat P p).length) 111 d_rm_comesAgain_11 rfl rfl rfl (by omega) (by omega) (fun hc11 => ?_) (fun hc11 => ?_)
    · exfalso; omega
    · refine Ex_aload_n d_rm_comesAgain_14 rfl ?_
      refine Ex_iload_n d_rm_comesAgain_15 rfl ?_
      refine Ex_iload d_rm_comesAgain_16 rfl ?_
      refine Ex_pV2 (v := .int (nI ((pPat P p).getD i 0))) d_rm_comesAgain_18 pk_rm_comesAgain_175 (t_38 hs) (rm_rowOf_p hs hP.2.1 hQ hp hi) ?_
      refine Ex_istore [some (.ref 38), some (.int (nI (p))), some (.int (nI (d))), some (.int (nI (o))), some (.int (nI (i))), some (.int (nI ((pPat P p).getD i 0))), none, none] d_rm_comesAgain_21 (Nat.le_of_ble_eq_true rfl) rfl ?_
      refine Ex_iconst d_rm_comesAgain_23 ic_0 ?_
      refine Ex_istore [some (.ref 38), some (.int (nI (p))), some (.int (nI (d))), some (.int (nI (o))), some (.int (nI (i))), some (.int (nI ((pPat P p).getD i 0))), some (.int (0)), none] d_rm_comesAgain_24 (Nat.le_of_ble_eq_true rfl) rfl ?_
      refine rm_cg_L1 hs hK hO hP hQ hp hd ho hi (fun z => PuB_f z) (fun hod => ?_) (gL (lp P p) i) 0 (by omega) (fun k hk => absurd hk (by omega))
      refine Ex_iincN (i) 1 [some (.ref 38), some (.int (nI (p))), some (.int (nI (d))), some (.int (nI (o))), some (.int (nI (i + 1))), some (.int (nI ((pPat P p).getD i 0))), some (.int (nI (gL (lp P p) i))), none] d_rm_comesAgain_105 rfl rfl rfl rfl ?_
      refine Ex_goto 3 d_rm_comesAgain_108 rfl ?_
      refine Ex_forget (ls' := [some (.ref 38), some (.int (nI (p))), some (.int (nI (d))), some (.int (nI (o))), some (.int (nI (i + 1))), none, none, none]) (sub_s (sub_s (sub_s (sub_s (sub_s (sub_n (sub_n (sub_n sub_0)))))))) ?_
      refine ih (i + 1) (by omega) (fun i' hi' => ?_)
      by_cases hii2 : i' = i
      · rw [hii2]; exact hod
      · exact hev i' (by omega)
theorem rm_comesAgain_s {S : mj_S} {h : mj_H} (hs : HT h) {K : SK} (hK : KM K h) (hO : KO K) {P : SP} (hP : PM P h) (hQ : PO K.1 P) {p : Nat} (hp : p < pNp P) {d o : Nat} (hd : d ≤ 60) (ho : o ≤ 60) : Cl S rm_comesAgain [.ref 38, .int (nI (p)), .int (nI (d)), .int (nI (o))] h (PuB (cgP P p d o) h) := by
  show Ex S rm_comesAgain 0 [some (.ref 38), some (.int (nI (p))), some (.int (nI (d))), some (.int (nI (o))), none, none, none, none] [] h _
  refine Ex_iconst d_rm_comesAgain_0 ic_0 ?_
  refine Ex_istore [some (.ref 38), some (.int (nI (p))), some (.int (nI (d))), some (.int (nI (o))), some (.int (0)), none, none, none] d_rm_comesAgain_1 (Nat.le_of_ble_eq_true rfl) rfl ?_
  exact rm_cg_L2 hs hK hO hP hQ hp hd ho (pPat P p).length 0 (by omega) (fun i hi => absurd hi (by omega))
theorem rm_period_L {S : mj_S} {h : mj_H} (hs : HT h) {K : SK} (hK : KM K h) (hO : KO K) {P : SP} (hP : PM P h) (hQ : PO K.1 P) {p : Nat} (hp : p < pNp P) {w : Int} (hw : 0 ≤ w ∧ w ≤ 1) : ∀ e a : Nat, a + e = 60 → 1 ≤ a → (∀ b, 1 ≤ b → b < a → ¬ cgA P p w b) → Ex S rm_period 21 [some (.ref 38), some (.int (nI (p))), some (.int (J (w))), some (.int (nI (a)))] [] h (fun rv h' => h' = h ∧ ∃ v : Int, rv = some (.int (J v)) ∧ perS P (p : Int) w v) := by
  intro e
  induction e with
  | zero =>
    intro a hae h1 hev
    obtain rfl : 60 = a := by omega
    have h60 := cg60 hQ hp w
    by_cases hw0 : w = 0
    · refine Ex_aload_n d_rm_period_21 rfl ?_
      refine Ex_iload_n d_rm_period_22 rfl ?_
      refine Ex_iload_n d_rm_period_23 rfl ?_
      refine Ex_if_neZ (w) 31 d_rm_period_24 rfl rfl (by omega) (fun hc24 => ?_) (fun hc24 => ?_)
      · exfalso; omega
      · refine Ex_iload_n d_rm_period_27 rfl ?_
        refine Ex_goto 32 d_rm_period_28 rfl ?_
        refine Ex_iload_n d_rm_period_32 rfl ?_
        refine Ex_if_neZ (w) 40 d_rm_period_33 rfl rfl (by omega) (fun hc33 => ?_) (fun hc33 => ?_)
        · exfalso; omega
        · refine Ex_iconst d_rm_period_36 ic_0 ?_
          refine Ex_goto 41 d_rm_period_37 rfl ?_
          refine Ex_cV3 d_rm_period_41 pk_rm_period_266 (t_38 hs) (rm_comesAgain_s hs hK hO hP hQ hp (d := 60) (o := 0) (by omega) (by omega)) ?_
          rintro rv hh ⟨hhe, v, rfl, hv⟩
          rw [hhe]
          have hv : v = true ↔ cgA P p w 60 := by unfold cgA; rw [if_pos hw0, if_pos hw0]; exact hv
          show Ex S rm_period 44 [some (.ref 38), some (.int (nI (p))), some (.int (J (w))), some (.int (nI (60)))] [.int (bI (v))] h _
          refine Ex_if_neB (v) 53 d_rm_period_44 rfl rfl (fun hc44 => ?_) (fun hc44 => ?_)
          · refine Ex_iload_n d_rm_period_53 rfl ?_
            refine Ex_ireturn d_rm_period_54 rfl ?_
            refine ⟨rfl, ((60 : Nat) : Int), by rw [nIJ], ?_⟩
            unfold perS
            rw [if_pos (by omega), Int.toNat_natCast]
            exact ⟨60, rfl, by omega, by omega, hv.mp hc44, hev⟩
          · exact absurd (hv.mpr h60) (by rw [hc44]; decide)
    · refine Ex_aload_n d_rm_period_21 rfl ?_
      refine Ex_iload_n d_rm_period_22 rfl ?_
      refine Ex_iload_n d_rm_period_23 rfl ?_
      refine Ex_if_neZ (w) 31 d_rm_period_24 rfl rfl (by omega) (fun hc24 => ?_) (fun hc24 => ?_)
      · refine Ex_iconst d_rm_period_31 ic_0 ?_
        refine Ex_iload_n d_rm_period_32 rfl ?_
        refine Ex_if_neZ (w) 40 d_rm_period_33 rfl rfl (by omega) (fun hc33 => ?_) (fun hc33 => ?_)
        · refine Ex_iload_n d_rm_period_40 rfl ?_
          refine Ex_cV3 d_rm_period_41 pk_rm_period_266 (t_38 hs) (rm_comesAgain_s hs hK hO hP hQ hp (d := 0) (o := 60) (by omega) (by omega)) ?_
          rintro rv hh ⟨hhe, v, rfl, hv⟩
          rw [hhe]
          have hv : v = true ↔ cgA P p w 60 := by unfold cgA; rw [if_neg hw0, if_neg hw0]; exact hv
          show Ex S rm_period 44 [some (.ref 38), some (.int (nI (p))), some (.int (J (w))), some (.int (nI (60)))] [.int (bI (v))] h _
          refine Ex_if_neB (v) 53 d_rm_period_44 rfl rfl (fun hc44 => ?_) (fun hc44 => ?_)
          · refine Ex_iload_n d_rm_period_53 rfl ?_
            refine Ex_ireturn d_rm_period_54 rfl ?_
            refine ⟨rfl, ((60 : Nat) : Int), by rw [nIJ], ?_⟩
            unfold perS
            rw [if_pos (by omega), Int.toNat_natCast]
            exact ⟨60, rfl, by omega, by omega, hv.mp hc44, hev⟩
          · exact absurd (hv.mpr h60) (by rw [hc44]; decide)
        · exfalso; omega
      · exfalso; omega
  | succ e ih =>
    intro a hae h1 hev
    by_cases hw0 : w = 0
    · refine Ex_aload_n d_rm_period_21 rfl ?_
      refine Ex_iload_n d_rm_period_22 rfl ?_
      refine Ex_iload_n d_rm_period_23 rfl ?_
      refine Ex_if_neZ (w) 31 d_rm_period_24 rfl rfl (by omega) (fun hc24 => ?_) (fun hc24 => ?_)
      · exfalso; omega
      · refine Ex_iload_n d_rm_period_27 rfl ?_
        refine Ex_goto 32 d_rm_period_28 rfl ?_
        refine Ex_iload_n d_rm_period_32 rfl ?_
        refine Ex_if_neZ (w) 40 d_rm_period_33 rfl rfl (by omega) (fun hc33 => ?_) (fun hc33 => ?_)
        · exfalso; omega
        · refine Ex_iconst d_rm_period_36 ic_0 ?_
          refine Ex_goto 41 d_rm_period_37 rfl ?_
          refine Ex_cV3 d_rm_period_41 pk_rm_period_266 (t_38 hs) (rm_comesAgain_s hs hK hO hP hQ hp (d := a) (o := 0) (by omega) (by omega)) ?_
          rintro rv hh ⟨hhe, v, rfl, hv⟩
          rw [hhe]
          have hv : v = true ↔ cgA P p w a := by unfold cgA; rw [if_pos hw0, if_pos hw0]; exact hv
          show Ex S rm_period 44 [some (.ref 38), some (.int (nI (p))), some (.int (J (w))), some (.int (nI (a)))] [.int (bI (v))] h _
          refine Ex_if_neB (v) 53 d_rm_period_44 rfl rfl (fun hc44 => ?_) (fun hc44 => ?_)
          · refine Ex_iload_n d_rm_period_53 rfl ?_
            refine Ex_ireturn d_rm_period_54 rfl ?_
            refine ⟨rfl, ((a : Nat) : Int), by rw [nIJ], ?_⟩
            unfold perS
            rw [if_pos (by omega), Int.toNat_natCast]
            exact ⟨a, rfl, by omega, by omega, hv.mp hc44, hev⟩
          · refine Ex_iincN (a) 1 [some (.ref 38), some (.int (nI (p))), some (.int (J (w))), some (.int (nI (a + 1)))] d_rm_period_47 rfl rfl rfl rfl ?_
            refine Ex_goto 21 d_rm_period_50 rfl ?_
            refine ih (a + 1) (by omega) (by omega) (fun b hb hb2 => ?_)
            by_cases hba : b = a
            · rw [hba]; exact fun z => absurd (hv.mpr z) (by rw [hc44]; decide)
            · exact hev b hb (by omega)
    · refine Ex_aload_n d_rm_period_21 rfl ?_
      refine Ex_iload_n d_rm_period_22 rfl ?_
      refine Ex_iload_n d_rm_period_23 rfl ?_
      refine Ex_if_neZ (w) 31 d_rm_period_24 rfl rfl (by omega) (fun hc24 => ?_) (fun hc24 => ?_)
      · refine Ex_iconst d_rm_period_31 ic_0 ?_
        refine Ex_iload_n d_rm_period_32 rfl ?_
        refine Ex_if_neZ (w) 40 d_rm_period_33 rfl rfl (by omega) (fun hc33 => ?_) (fun hc33 => ?_)
        · refine Ex_iload_n d_rm_period_40 rfl ?_
          refine Ex_cV3 d_rm_period_41 pk_rm_period_266 (t_38 hs) (rm_comesAgain_s hs hK hO hP hQ hp (d := 0) (o := a) (by omega) (by omega)) ?_
          rintro rv hh ⟨hhe, v, rfl, hv⟩
          rw [hhe]
          have hv : v = true ↔ cgA P p w a := by unfold cgA; rw [if_neg hw0, if_neg hw0]; exact hv
          show Ex S rm_period 44 [some (.ref 38), some (.int (nI (p))), some (.int (J (w))), some (.int (nI (a)))] [.int (bI (v))] h _
          refine Ex_if_neB (v) 53 d_rm_period_44 rfl rfl (fun hc44 => ?_) (fun hc44 => ?_)
          · refine Ex_iload_n d_rm_period_53 rfl ?_
            refine Ex_ireturn d_rm_period_54 rfl ?_
            refine ⟨rfl, ((a : Nat) : Int), by rw [nIJ], ?_⟩
            unfold perS
            rw [if_pos (by omega), Int.toNat_natCast]
            exact ⟨a, rfl, by omega, by omega, hv.mp hc44, hev⟩
          · refine Ex_iincN (a) 1 [some (.ref 38), some (.int (nI (p))), some (.int (J (w))), some (.int (nI (a + 1)))] d_rm_period_47 rfl rfl rfl rfl ?_
            refine Ex_goto 21 d_rm_period_50 rfl ?_
            refine ih (a + 1) (by omega) (by omega) (fun b hb hb2 => ?_)
            by_cases hba : b = a
            · rw [hba]; exact fun z => absurd (hv.mpr z) (by rw [hc44]; decide)
            · exact hev b hb (by omega)
        · exfalso; omega
      · exfalso; omega
theorem rm_period_s {S : mj_S} {h : mj_H} (hs : HT h) {K : SK} (hK : KM K h) (hO : KO K) {P : SP} (hP : PM P h) (hQ : PO K.1 P) {p w : Int} (hp : -2147483648 ≤ p ∧ p < 2147483648) (hw : -2147483648 ≤ w ∧ w < 2147483648) : Cl S rm_period [.ref 38, .int (J (p)), .int (J (w))] h (fun rv h' => h' = h ∧ ∃ v : Int, rv = some (.int (J v)) ∧ perS P p w v) := by
  show Ex S rm_period 0 [some (.ref 38), some (.int (J (p))), some (.int (J (w))), none] [] h _
  refine Ex_aload_n d_rm_period_0 rfl ?_
  refine Ex_iload_n d_rm_period_1 rfl ?_
  refine Ex_pV1 (v := .int (bI (decide (0 ≤ p ∧ p < pNp P)))) d_rm_period_2 pk_rm_period_187 (t_38 hs) (rm_isPattern_s hs hP.2.1 hQ.2.2.1 hp) ?_
  refine Ex_if_eqB (decide (0 ≤ p ∧ p < pNp P)) 17 d_rm_period_5 rfl rfl (fun hc5 => ?_) (fun hc5 => ?_)
  · rw [decide_eq_false_iff_not] at hc5
    refine Ex_iconst d_rm_period_17 ic_m1 ?_
    refine Ex_ireturn d_rm_period_18 rfl ?_
    exact ⟨rfl, -1, rfl, by unfold perS; rw [if_neg (by omega)]⟩
  · rw [decide_eq_true_eq] at hc5
    refine Ex_iload_n d_rm_period_8 rfl ?_
    refine Ex_if_ltZ (w) 17 d_rm_period_9 rfl rfl (by omega) (fun hc9 => ?_) (fun hc9 => ?_)
    · refine Ex_iconst d_rm_period_17 ic_m1 ?_
      refine Ex_ireturn d_rm_period_18 rfl ?_
      exact ⟨rfl, -1, rfl, by unfold perS; rw [if_neg (by omega)]⟩
    · refine Ex_iload_n d_rm_period_12 rfl ?_
      refine Ex_iconst d_rm_period_13 ic_1 ?_
      refine Ex_icmp_leZ (w) ((1)) 19 d_rm_period_14 rfl rfl (by decide) (by omega) (by omega) (fun hc14 => ?_) (fun hc14 => ?_)
      · obtain ⟨a, rfl⟩ : ∃ a : Nat, p = (a : Int) := ⟨p.toNat, by omega⟩
        simp only [← nIJ]
        refine Ex_iconst d_rm_period_19 ic_1 ?_
        refine Ex_istore_n [some (.ref 38), some (.int (nI (a))), some (.int (J (w))), some (.int (1))] d_rm_period_20 (Nat.le_of_ble_eq_true rfl) rfl ?_
        exact rm_period_L hs hK hO hP hQ (p := a) (by omega) (by omega) 59 1 (by omega) (by omega) (fun b hb hb2 => absurd hb2 (by omega))
      · refine Ex_iconst d_rm_period_17 ic_m1 ?_
        refine Ex_ireturn d_rm_period_18 rfl ?_
        exact ⟨rfl, -1, rfl, by unfold perS; rw [if_neg (by omega)]⟩
