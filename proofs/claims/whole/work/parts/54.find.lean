/-! FOUND; find on both sides. -/
def sc (g : Nat → Bool) : Nat → Nat → Nat → Option Nat
  | 0, _, _ => none
  | e + 1, t, l => if g t = true then (if l = 0 then some t else sc g e (t + 1) (l - 1)) else sc g e (t + 1) l
theorem sc_t0 {g : Nat → Bool} {t : Nat} (h : g t = true) (e : Nat) : sc g (e + 1) t 0 = some t := by
  show (if g t = true then _ else _) = _
  rw [if_pos h]
  rfl
theorem sc_t {g : Nat → Bool} {t l : Nat} (h : g t = true) (hl : ¬ l = 0) (e : Nat) : sc g (e + 1) t l = sc g e (t + 1) (l - 1) := by
  show (if g t = true then _ else _) = _
  rw [if_pos h, if_neg hl]
theorem sc_f {g : Nat → Bool} {t l : Nat} (h : ¬ g t = true) (e : Nat) : sc g (e + 1) t l = sc g e (t + 1) l := by
  show (if g t = true then _ else _) = _
  rw [if_neg h]
theorem sc_skip {g : Nat → Bool} {l : Nat} : ∀ (d e t : Nat), (∀ u, t ≤ u → u < t + d → ¬ g u = true) → sc g (e + d) t l = sc g e (t + d) l
  | 0, e, t, _ => rfl
  | d + 1, e, t, h => by
    rw [← Nat.add_assoc, sc_f (h t (by omega) (by omega)), sc_skip d e (t + 1) (fun u h1 h2 => h u (by omega) (by omega))]
    congr 1
    omega
def cnB (g : Nat → Bool) (t : Nat) : Nat → Nat
  | 0 => 0
  | d + 1 => (if g t = true then 1 else 0) + cnB g (t + 1) d
theorem cnB_le (g : Nat → Bool) : ∀ d t, cnB g t d ≤ d
  | 0, _ => Nat.le_refl _
  | d + 1, t => by
    have := cnB_le g d (t + 1)
    unfold cnB
    split <;> omega
theorem sc_over {g : Nat → Bool} : ∀ (d e t l : Nat), cnB g t d ≤ l → sc g (e + d) t l = sc g e (t + d) (l - cnB g t d)
  | 0, e, t, l, _ => rfl
  | d + 1, e, t, l, h => by
    unfold cnB at h ⊢
    rw [← Nat.add_assoc]
    by_cases hg : g t = true
    · rw [if_pos hg] at h ⊢
      rw [sc_t hg (by omega), sc_over d e (t + 1) (l - 1) (by omega)]
      congr 1 <;> omega
    · rw [if_neg hg] at h ⊢
      rw [sc_f hg, sc_over d e (t + 1) l (by omega)]
      congr 1 <;> omega
theorem sc_in {g : Nat → Bool} : ∀ (d e t l : Nat), l < cnB g t d → ∃ m, m < d ∧ sc g (e + d) t l = some (t + m) ∧ sc g d t l = some (t + m)
  | 0, _, _, _, h => absurd h (Nat.not_lt_zero _)
  | d + 1, e, t, l, h => by
    unfold cnB at h
    rw [← Nat.add_assoc]
    by_cases hg : g t = true
    · rw [if_pos hg] at h
      by_cases hl : l = 0
      · subst hl
        exact ⟨0, by omega, sc_t0 hg _, sc_t0 hg _⟩
      · obtain ⟨m, h1, h2, h3⟩ := sc_in (g := g) d e (t + 1) (l - 1) (by omega)
        exact ⟨m + 1, by omega, by rw [sc_t hg hl, h2]; congr 1; omega, by rw [sc_t hg hl, h3]; congr 1; omega⟩
    · rw [if_neg hg] at h
      obtain ⟨m, h1, h2, h3⟩ := sc_in (g := g) d e (t + 1) l (by omega)
      exact ⟨m + 1, by omega, by rw [sc_f hg, h2]; congr 1; omega, by rw [sc_f hg, h3]; congr 1; omega⟩
noncomputable def fG (K : SK) (P : SP) (p q t : Nat) : Bool := tfB (t / 480 < ln P p ∧ t / 8 % 60 < gL (lp P p) (t / 480) ∧ fnP K P p q ((t / 480 : Nat) : Int) (gO (lp P p) (t / 480) + ((t / 8 % 60 : Nat) : Int)) (t % 8))
def fV (t : Nat) : Int := ((1000 * (t / 480) + 10 * (t / 8 % 60) + t % 8 : Nat) : Int)
def vO (o : Option Nat) : Int := match o with
  | some t => fV t
  | none => -1
theorem t_dm {i n m : Nat} (hn : n < 60) (hm : m < 8) : (480 * i + 8 * n + m) / 480 = i ∧ (480 * i + 8 * n + m) / 8 % 60 = n ∧ (480 * i + 8 * n + m) % 8 = m := by omega
theorem fG_at {K : SK} {P : SP} {p q i n m : Nat} (hn : n < 60) (hm : m < 8) : fG K P p q (480 * i + 8 * n + m) = tfB (i < ln P p ∧ n < gL (lp P p) i ∧ fnP K P p q (i : Int) (gO (lp P p) i + (n : Int)) m) := by
  obtain ⟨h1, h2, h3⟩ := t_dm (i := i) hn hm
  unfold fG
  rw [h1, h2, h3]
theorem fG_off {K : SK} {P : SP} {p : Nat} (hL : ∀ i, i < ln P p → gL (lp P p) i ≤ 60) {q i : Nat} (hi : i < ln P p) : ∀ u, 480 * i + 8 * gL (lp P p) i ≤ u → u < 480 * (i + 1) → ¬ fG K P p q u = true := by
  intro u h1 h2 z
  have z := (tfB_iff.mp z).2.1
  rw [show u / 480 = i by omega] at z
  have := hL i hi
  omega
theorem fG_end {K : SK} {P : SP} {p q : Nat} : ∀ u, 480 * ln P p ≤ u → ¬ fG K P p q u = true := by
  intro u h1 z
  have z := (tfB_iff.mp z).1
  omega
noncomputable def findS (K : SK) (P : SP) (p q k : Int) : Int := if 0 ≤ p ∧ p < pNp P ∧ 0 ≤ q ∧ q < pNp P ∧ tfB (fullP P q.toNat) = true ∧ 0 ≤ k then vO (sc (fG K P p.toNat q.toNat) 28800 0 k.toNat) else -1
theorem rm_find_L3 {S : mj_S} {h : mj_H} (hs : HT h) {K : SK} (hK : KM K h) (hO : KO K) {P : SP} (hP : PM P h) (hQ : PO K.1 P) {p : Nat} (hp : p < pNp P) {q : Nat} (hq : q < pNp P) (hg : fullP P q) {z3 : Int32} {i : Nat} (hi : i < ln P p) {n : Nat} (hn : n < gL (lp P p) i)
    (kx : ∀ (l : Nat) (h1 : mj_H), l < 2147483648 → Fr Wf8 h h1 → Ex S rm_find 137 [some (.ref 38), some (.int (nI (p))), some (.int (nI (q))), some (.int (z3)), some (.int (nI (l))), some (.int (nI (i))), some (.int (nI ((pPat P p).getD i 0))), some (.int (nI (n))), some (.int (nI (8)))] [] h1 (PuF (.int (J (vO (sc (fG K P p q) (28800 - (480 * i + 8 * n + 8)) (480 * i + 8 * n + 8) l)))) Wf8 h)) : ∀ e m : Nat, m + e = 8 → ∀ (l : Nat) (h1 : mj_H), l < 2147483648 → Fr Wf8 h h1 → Ex S rm_find 74 [some (.ref 38), some (.int (nI (p))), some (.int (nI (q))), some (.int (z3)), some (.int (nI (l))), some (.int (nI (i))), some (.int (nI ((pPat P p).getD i 0))), some (.int (nI (n))), some (.int (nI (m)))] [] h1 (PuF (.int (J (vO (sc (fG K P p q) (28800 - (480 * i + 8 * n + m)) (480 * i + 8 * n + m) l)))) Wf8 h) := by
  have hokl := hQ.2.2.2.1 p hp
  have hl60 : ln P p ≤ 60 := hokl.1
  have hLO : LO K.1 (lp P p) := lv0_ok hQ hokl
  have hmd : pMd P ≤ 6000 := hQ.1
  have hnp := hQ.2.2.1
  have hle : (pPat P p).length = ln P p := rfl
  have hrow := PO_row hQ hp hi
  have hli := (hLO.2 i hi).1
  intro e
  induction e with
  | zero =>
    intro m hme l h1 hl f1
    obtain rfl : 8 = m := by omega
    refine Ex_iload d_rm_find_74 rfl ?_
    refine Ex_bipush d_rm_find_76 bp_8 ?_
    refine Ex_icmp_geN (8) (8) 137 d_rm_find_78 rfl rfl rfl (by omega) (by omega) (fun hc78 => ?_) (fun hc78 => ?_)
    · exact kx l h1 hl f1
    · exfalso; omega
  | succ e ih =>
    intro m hme l h1 hl f1
    have hs1 : HT h1 := f1.ht hs Wf8_st
    have hP1 := PM_8 hs f1 hP
    have hK1 := KM_8 hs f1 hK
    obtain ⟨c1, c2, c3⟩ := hP1.1.2 _ hrow
    have hgt : (fG K P p q) (480 * i + 8 * n + m) = tfB (fnP K P p q (i : Int) (gO (lp P p) i + (n : Int)) m) := by
      rw [fG_at (by omega) (by omega)]
      by_cases z : fnP K P p q (i : Int) (gO (lp P p) i + (n : Int)) m
      · rw [tfB_t z, tfB_t ⟨hi, hn, z⟩]
      · rw [tfB_f z, tfB_f (fun w => z w.2.2)]
    rw [show 28800 - (480 * i + 8 * n + m) = 28800 - (480 * i + 8 * n + (m + 1)) + 1 by omega]
    refine Ex_iload d_rm_find_74 rfl ?_
    refine Ex_bipush d_rm_find_76 bp_8 ?_
    refine Ex_icmp_geN (m) (8) 137 d_rm_find_78 rfl rfl rfl (by omega) (by omega) (fun hc78 => ?_) (fun hc78 => ?_)
    · exfalso; omega
    · refine Ex_aload_n d_rm_find_81 rfl ?_
      refine Ex_iload_n d_rm_find_82 rfl ?_
      refine Ex_iload_n d_rm_find_83 rfl ?_
      refine Ex_iload d_rm_find_84 rfl ?_
      refine Ex_aload_n d_rm_find_86 rfl ?_
      refine Ex_getR (v := .ref 45) d_rm_find_87 pf_rm_30 rfl (t_38 hs1) (r_38_7 hs1) ?_
      refine Ex_iload d_rm_find_90 rfl ?_
      refine Ex_ialoadN (a := (pPat P p).getD i 0) (y := (J (gO (lp P p) i))) d_rm_find_92 (t_45 hs1) rfl (by omega) (by decide) c2 ?_
      refine Ex_iload d_rm_find_93 rfl ?_
      refine Ex_iaddZ (gO (lp P p) i) (((n : Nat) : Int)) d_rm_find_95 rfl (nIJ _) ?_
      refine Ex_iload d_rm_find_96 rfl ?_
      refine Ex_cV5 d_rm_find_98 pk_rm_find_281 (t_38 hs1) (rm_isFound_s hs1 hK1 hO hP1 hQ hp hq hg (m := m) (by omega) (by omega) (by omega)) ?_
      rintro rv h2 ⟨rfl, f2⟩
      show Ex S rm_find 101 [some (.ref 38), some (.int (nI (p))), some (.int (nI (q))), some (.int (z3)), some (.int (nI (l))), some (.int (nI (i))), some (.int (nI ((pPat P p).getD i 0))), some (.int (nI (n))), some (.int (nI (m)))] [.int (bI (tfB (fnP K P p q (i : Int) (gO (lp P p) i + (n : Int)) m)))] h2 _
      refine Ex_if_neB (tfB (fnP K P p q (i : Int) (gO (lp P p) i + (n : Int)) m)) 107 d_rm_find_101 rfl rfl (fun hc101 => ?_) (fun hc101 => ?_)
      · refine Ex_iload d_rm_find_107 rfl ?_
        refine Ex_if_neN (l) 128 d_rm_find_109 rfl rfl (by omega) (fun hc109 => ?_) (fun hc109 => ?_)
        · refine Ex_iincZ (((l : Nat) : Int)) (-1) [some (.ref 38), some (.int (nI (p))), some (.int (nI (q))), some (.int (z3)), some (.int (J ((((l : Nat) : Int)) + (-1)))), some (.int (nI (i))), some (.int (nI ((pPat P p).getD i 0))), some (.int (nI (n))), some (.int (nI (m)))] d_rm_find_128 rfl (nIJ _) (by decide) rfl ?_
          rw [show ((J ((((l : Nat) : Int)) + (-1))) : Int32) = (nI (l - 1)) from (by rw [nIJ]; congr 1; omega)]
          refine Ex_iincN (m) 1 [some (.ref 38), some (.int (nI (p))), some (.int (nI (q))), some (.int (z3)), some (.int (nI (l - 1))), some (.int (nI (i))), some (.int (nI ((pPat P p).getD i 0))), some (.int (nI (n))), some (.int (nI (m + 1)))] d_rm_find_131 rfl rfl rfl rfl ?_
          refine Ex_goto 74 d_rm_find_134 rfl ?_
          rw [sc_t (by rw [hgt]; exact hc101) hc109, show (480 * i + 8 * n + m) + 1 = (480 * i + 8 * n + (m + 1)) by omega]
          exact ih (m + 1) (by omega) (l - 1) h2 (by omega) (f1.tr f2)
        · refine Ex_sipush d_rm_find_112 sp_1000 ?_
          refine Ex_iload d_rm_find_115 rfl ?_
          refine Ex_imulN (1000) (i) d_rm_find_117 rfl rfl ?_
          refine Ex_bipush d_rm_find_118 bp_10 ?_
          refine Ex_iload d_rm_find_120 rfl ?_
          refine Ex_imulN (10) (n) d_rm_find_122 rfl rfl ?_
          refine Ex_iaddN (1000 * i) (10 * n) d_rm_find_123 rfl rfl ?_
          refine Ex_iload d_rm_find_124 rfl ?_
          refine Ex_iaddN ((1000 * i) + (10 * n)) (m) d_rm_find_126 rfl rfl ?_
          refine Ex_ireturn d_rm_find_127 rfl ?_
          have hz : l = 0 := hc109
          subst hz
          refine ⟨?_, f1.tr f2⟩
          rw [sc_t0 (by rw [hgt]; exact hc101), nIJ]
          exact congrArg (fun z => some (Value.int (J z))) (by show _ = fV _; unfold fV; obtain ⟨q1, q2, q3⟩ := t_dm (i := i) (n := n) (m := m) (by omega) (by omega); rw [q1, q2, q3])
      · refine Ex_goto 131 d_rm_find_104 rfl ?_
        refine Ex_iincN (m) 1 [some (.ref 38), some (.int (nI (p))), some (.int (nI (q))), some (.int (z3)), some (.int (nI (l))), some (.int (nI (i))), some (.int (nI ((pPat P p).getD i 0))), some (.int (nI (n))), some (.int (nI (m + 1)))] d_rm_find_131 rfl rfl rfl rfl ?_
        refine Ex_goto 74 d_rm_find_134 rfl ?_
        rw [sc_f (by rw [hgt, hc101]; decide), show (480 * i + 8 * n + m) + 1 = (480 * i + 8 * n + (m + 1)) by omega]
        exact ih (m + 1) (by omega) l h2 hl (f1.tr f2)
theorem rm_find_L2 {S : mj_S} {h : mj_H} (hs : HT h) {K : SK} (hK : KM K h) (hO : KO K) {P : SP} (hP : PM P h) (hQ : PO K.1 P) {p : Nat} (hp : p < pNp P) {q : Nat} (hq : q < pNp P) (hg : fullP P q) {z3 : Int32} {i : Nat} (hi : i < ln P p)
    (kx : ∀ (l : Nat) (h1 : mj_H), l < 2147483648 → Fr Wf8 h h1 → Ex S rm_find 143 [some (.ref 38), some (.int (nI (p))), some (.int (nI (q))), some (.int (z3)), some (.int (nI (l))), some (.int (nI (i))), some (.int (nI ((pPat P p).getD i 0))), some (.int (nI (gL (lp P p) i))), none] [] h1 (PuF (.int (J (vO (sc (fG K P p q) (28800 - (480 * (i + 1) + 8 * 0 + 0)) (480 * (i + 1) + 8 * 0 + 0) l)))) Wf8 h)) : ∀ e n : Nat, n + e = gL (lp P p) i → ∀ (l : Nat) (h1 : mj_H), l < 2147483648 → Fr Wf8 h h1 → Ex S rm_find 59 [some (.ref 38), some (.int (nI (p))), some (.int (nI (q))), some (.int (z3)), some (.int (nI (l))), some (.int (nI (i))), some (.int (nI ((pPat P p).getD i 0))), some (.int (nI (n))), none] [] h1 (PuF (.int (J (vO (sc (fG K P p q) (28800 - (480 * i + 8 * n + 0)) (480 * i + 8 * n + 0) l)))) Wf8 h) := by
  have hokl := hQ.2.2.2.1 p hp
  have hl60 : ln P p ≤ 60 := hokl.1
  have hLO : LO K.1 (lp P p) := lv0_ok hQ hokl
  have hmd : pMd P ≤ 6000 := hQ.1
  have hnp := hQ.2.2.1
  have hle : (pPat P p).length = ln P p := rfl
  have hrow := PO_row hQ hp hi
  have hli := (hLO.2 i hi).1
  intro e
  induction e with
  | zero =>
    intro n hne l h1 hl f1
    obtain rfl : gL (lp P p) i = n := by omega
    have hs1 : HT h1 := f1.ht hs Wf8_st
    have hP1 := PM_8 hs f1 hP
    have hK1 := KM_8 hs f1 hK
    obtain ⟨c1, c2, c3⟩ := hP1.1.2 _ hrow
    have hsk := sc_skip (g := (fG K P p q)) (l := l) (480 * (i + 1) - (480 * i + 8 * gL (lp P p) i)) (28800 - 480 * (i + 1)) (480 * i + 8 * gL (lp P p) i) (fun u h1 h2 => fG_off (fun i hi => (hLO.2 i hi).1.1) hi u h1 (by omega))
    rw [show 28800 - 480 * (i + 1) + (480 * (i + 1) - (480 * i + 8 * gL (lp P p) i)) = 28800 - (480 * i + 8 * (gL (lp P p) i) + 0) by omega, show 480 * i + 8 * gL (lp P p) i + (480 * (i + 1) - (480 * i + 8 * gL (lp P p) i)) = (480 * (i + 1) + 8 * 0 + 0) by omega, show 28800 - 480 * (i + 1) = 28800 - (480 * (i + 1) + 8 * 0 + 0) by omega, show 480 * i + 8 * gL (lp P p) i = (480 * i + 8 * (gL (lp P p) i) + 0) by omega] at hsk
    rw [hsk]
    refine Ex_iload d_rm_find_59 rfl ?_
    refine Ex_aload_n d_rm_find_61 rfl ?_
    refine Ex_getR (v := .ref 44) d_rm_find_62 pf_rm_27 rfl (t_38 hs1) (r_38_6 hs1) ?_
    refine Ex_iload d_rm_find_65 rfl ?_
    refine Ex_ialoadN (a := (pPat P p).getD i 0) (y := (nI (gL (lp P p) i))) d_rm_find_67 (t_44 hs1) rfl (by omega) (by decide) c1 ?_
    refine Ex_icmp_geN (gL (lp P p) i) (gL (lp P p) i) 143 d_rm_find_68 rfl rfl rfl (by omega) (by omega) (fun hc68 => ?_) (fun hc68 => ?_)
    · exact kx l h1 hl f1
    · exfalso; omega
  | succ e ih =>
    intro n hne l h1 hl f1
    have hs1 : HT h1 := f1.ht hs Wf8_st
    have hP1 := PM_8 hs f1 hP
    have hK1 := KM_8 hs f1 hK
    obtain ⟨c1, c2, c3⟩ := hP1.1.2 _ hrow
    refine Ex_iload d_rm_find_59 rfl ?_
    refine Ex_aload_n d_rm_find_61 rfl ?_
    refine Ex_getR (v := .ref 44) d_rm_find_62 pf_rm_27 rfl (t_38 hs1) (r_38_6 hs1) ?_
    refine Ex_iload d_rm_find_65 rfl ?_
    refine Ex_ialoadN (a := (pPat P p).getD i 0) (y := (nI (gL (lp P p) i))) d_rm_find_67 (t_44 hs1) rfl (by omega) (by decide) c1 ?_
    refine Ex_icmp_geN (n) (gL (lp P p) i) 143 d_rm_find_68 rfl rfl rfl (by omega) (by omega) (fun hc68 => ?_) (fun hc68 => ?_)
    · exfalso; omega
    · refine Ex_iconst d_rm_find_71 ic_0 ?_
      refine Ex_istore [some (.ref 38), some (.int (nI (p))), some (.int (nI (q))), some (.int (z3)), some (.int (nI (l))), some (.int (nI (i))), some (.int (nI ((pPat P p).getD i 0))), some (.int (nI (n))), some (.int (0))] d_rm_find_72 (Nat.le_of_ble_eq_true rfl) rfl ?_
      refine rm_find_L3 hs hK hO hP hQ hp hq hg hi (show n < gL (lp P p) i by omega) (fun l2 h2 hl2 f2 => ?_) 8 0 (by omega) l h1 hl f1
      refine Ex_iincN (n) 1 [some (.ref 38), some (.int (nI (p))), some (.int (nI (q))), some (.int (z3)), some (.int (nI (l2))), some (.int (nI (i))), some (.int (nI ((pPat P p).getD i 0))), some (.int (nI (n + 1))), some (.int (nI (8)))] d_rm_find_137 rfl rfl rfl rfl ?_
      refine Ex_goto 59 d_rm_find_140 rfl ?_
      refine Ex_forget (ls' := [some (.ref 38), some (.int (nI (p))), some (.int (nI (q))), some (.int (z3)), some (.int (nI (l2))), some (.int (nI (i))), some (.int (nI ((pPat P p).getD i 0))), some (.int (nI (n + 1))), none]) (sub_s (sub_s (sub_s (sub_s (sub_s (sub_s (sub_s (sub_s (sub_n sub_0))))))))) ?_
      have z := ih (n + 1) (by omega) l2 h2 hl2 f2
      rw [show (480 * i + 8 * (n + 1) + 0) = (480 * i + 8 * n + 8) by omega] at z
      exact z
theorem rm_find_L1 {S : mj_S} {h : mj_H} (hs : HT h) {K : SK} (hK : KM K h) (hO : KO K) {P : SP} (hP : PM P h) (hQ : PO K.1 P) {p : Nat} (hp : p < pNp P) {q : Nat} (hq : q < pNp P) (hg : fullP P q) {z3 : Int32} : ∀ e i : Nat, i + e = ln P p → ∀ (l : Nat) (h1 : mj_H), l < 2147483648 → Fr Wf8 h h1 → Ex S rm_find 36 [some (.ref 38), some (.int (nI (p))), some (.int (nI (q))), some (.int (z3)), some (.int (nI (l))), some (.int (nI (i))), none, none, none] [] h1 (PuF (.int (J (vO (sc (fG K P p q) (28800 - (480 * i + 8 * 0 + 0)) (480 * i + 8 * 0 + 0) l)))) Wf8 h) := by
  have hokl := hQ.2.2.2.1 p hp
  have hl60 : ln P p ≤ 60 := hokl.1
  have hLO : LO K.1 (lp P p) := lv0_ok hQ hokl
  have hmd : pMd P ≤ 6000 := hQ.1
  have hnp := hQ.2.2.1
  have hle : (pPat P p).length = ln P p := rfl
  intro e
  induction e with
  | zero =>
    intro i hie l h1 hl f1
    obtain rfl : ln P p = i := by omega
    have hs1 : HT h1 := f1.ht hs Wf8_st
    have hP1 := PM_8 hs f1 hP
    have hsk := sc_skip (g := (fG K P p q)) (l := l) (28800 - (480 * (ln P p) + 8 * 0 + 0)) 0 (480 * (ln P p) + 8 * 0 + 0) (fun u h1 h2 => fG_end u (by omega))
    rw [Nat.zero_add] at hsk
    rw [hsk]
    refine Ex_iload d_rm_find_36 rfl ?_
    refine Ex_aload_n d_rm_find_38 rfl ?_
    refine Ex_getR (v := .ref 48) d_rm_find_39 pf_rm_40 rfl (t_38 hs1) (r_38_11 hs1) ?_
    refine Ex_iload_n d_rm_find_42 rfl ?_
    refine Ex_ialoadN (a := p) (y := (nI (ln P p))) d_rm_find_43 (t_48 hs1) rfl (by omega) (by decide) (hP1.2.1.2 p hp).1 ?_
    refine Ex_icmp_geN (ln P p) (ln P p) 149 d_rm_find_44 rfl rfl rfl (by omega) (by omega) (fun hc44 => ?_) (fun hc44 => ?_)
    · refine Ex_iconst d_rm_find_149 ic_m1 ?_
      refine Ex_ireturn d_rm_find_150 rfl ?_
      exact ⟨rfl, f1⟩
    · exfalso; omega
  | succ e ih =>
    intro i hie l h1 hl f1
    have hi : i < ln P p := by omega
    have hs1 : HT h1 := f1.ht hs Wf8_st
    have hP1 := PM_8 hs f1 hP
    refine Ex_iload d_rm_find_36 rfl ?_
    refine Ex_aload_n d_rm_find_38 rfl ?_
    refine Ex_getR (v := .ref 48) d_rm_find_39 pf_rm_40 rfl (t_38 hs1) (r_38_11 hs1) ?_
    refine Ex_iload_n d_rm_find_42 rfl ?_
    refine Ex_ialoadN (a := p) (y := (nI (ln P p))) d_rm_find_43 (t_48 hs1) rfl (by omega) (by decide) (hP1.2.1.2 p hp).1 ?_
    refine Ex_icmp_geN (i) (ln P p) 149 d_rm_find_44 rfl rfl rfl (by omega) (by omega) (fun hc44 => ?_) (fun hc44 => ?_)
    · exfalso; omega
    · refine Ex_aload_n d_rm_find_47 rfl ?_
      refine Ex_iload_n d_rm_find_48 rfl ?_
      refine Ex_iload d_rm_find_49 rfl ?_
      refine Ex_pV2 (v := .int (nI ((pPat P p).getD i 0))) d_rm_find_51 pk_rm_find_175 (t_38 hs1) (rm_rowOf_p hs1 hP1.2.1 hQ hp hi) ?_
      refine Ex_istore [some (.ref 38), some (.int (nI (p))), some (.int (nI (q))), some (.int (z3)), some (.int (nI (l))), some (.int (nI (i))), some (.int (nI ((pPat P p).getD i 0))), none, none] d_rm_find_54 (Nat.le_of_ble_eq_true rfl) rfl ?_
      refine Ex_iconst d_rm_find_56 ic_0 ?_
      refine Ex_istore [some (.ref 38), some (.int (nI (p))), some (.int (nI (q))), some (.int (z3)), some (.int (nI (l))), some (.int (nI (i))), some (.int (nI ((pPat P p).getD i 0))), some (.int (0)), none] d_rm_find_57 (Nat.le_of_ble_eq_true rfl) rfl ?_
      refine rm_find_L2 hs hK hO hP hQ hp hq hg hi (fun l2 h2 hl2 f2 => ?_) (gL (lp P p) i) 0 (by omega) l h1 hl f1
      refine Ex_iincN (i) 1 [some (.ref 38), some (.int (nI (p))), some (.int (nI (q))), some (.int (z3)), some (.int (nI (l2))), some (.int (nI (i + 1))), some (.int (nI ((pPat P p).getD i 0))), some (.int (nI (gL (lp P p) i))), none] d_rm_find_143 rfl rfl rfl rfl ?_
      refine Ex_goto 36 d_rm_find_146 rfl ?_
      refine Ex_forget (ls' := [some (.ref 38), some (.int (nI (p))), some (.int (nI (q))), some (.int (z3)), some (.int (nI (l2))), some (.int (nI (i + 1))), none, none, none]) (sub_s (sub_s (sub_s (sub_s (sub_s (sub_s (sub_n (sub_n (sub_n sub_0))))))))) ?_
      exact ih (i + 1) (by omega) l2 h2 hl2 f2
theorem rm_find_s {S : mj_S} {h : mj_H} (hs : HT h) {K : SK} (hK : KM K h) (hO : KO K) {P : SP} (hP : PM P h) (hQ : PO K.1 P) {p q k : Int} (hp : -2147483648 ≤ p ∧ p < 2147483648) (hq : -2147483648 ≤ q ∧ q < 2147483648) (hk : -2147483648 ≤ k ∧ k < 2147483648) : Cl S rm_find [.ref 38, .int (J (p)), .int (J (q)), .int (J (k))] h (PuF (.int (J (findS K P p q k))) Wf8 h) := by
  show Ex S rm_find 0 [some (.ref 38), some (.int (J (p))), some (.int (J (q))), some (.int (J (k))), none, none, none, none, none] [] h _
  refine Ex_aload_n d_rm_find_0 rfl ?_
  refine Ex_iload_n d_rm_find_1 rfl ?_
  refine Ex_pV1 (v := .int (bI (decide (0 ≤ p ∧ p < pNp P)))) d_rm_find_2 pk_rm_find_187 (t_38 hs) (rm_isPattern_s hs hP.2.1 hQ.2.2.1 hp) ?_
  refine Ex_if_eqB (decide (0 ≤ p ∧ p < pNp P)) 28 d_rm_find_5 rfl rfl (fun hc5 => ?_) (fun hc5 => ?_)
  · rw [decide_eq_false_iff_not] at hc5
    refine Ex_iconst d_rm_find_28 ic_m1 ?_
    refine Ex_ireturn d_rm_find_29 rfl ?_
    exact ⟨by unfold findS; rw [if_neg (by (try simp only [Int.toNat_natCast]); rintro ⟨z1, z2, z3, z4, z5, z6⟩; first | omega | exact absurd (z5.symm.trans hc21) (by decide))]; rfl, Fr.rf⟩
  · rw [decide_eq_true_eq] at hc5
    refine Ex_aload_n d_rm_find_8 rfl ?_
    refine Ex_iload_n d_rm_find_9 rfl ?_
    refine Ex_pV1 (v := .int (bI (decide (0 ≤ q ∧ q < pNp P)))) d_rm_find_10 pk_rm_find_187 (t_38 hs) (rm_isPattern_s hs hP.2.1 hQ.2.2.1 hq) ?_
    refine Ex_if_eqB (decide (0 ≤ q ∧ q < pNp P)) 28 d_rm_find_13 rfl rfl (fun hc13 => ?_) (fun hc13 => ?_)
    · rw [decide_eq_false_iff_not] at hc13
      refine Ex_iconst d_rm_find_28 ic_m1 ?_
      refine Ex_ireturn d_rm_find_29 rfl ?_
      exact ⟨by unfold findS; rw [if_neg (by (try simp only [Int.toNat_natCast]); rintro ⟨z1, z2, z3, z4, z5, z6⟩; first | omega | exact absurd (z5.symm.trans hc21) (by decide))]; rfl, Fr.rf⟩
    · rw [decide_eq_true_eq] at hc13
      obtain ⟨a, rfl⟩ : ∃ a : Nat, p = (a : Int) := ⟨p.toNat, by omega⟩
      obtain ⟨b, rfl⟩ : ∃ b : Nat, q = (b : Int) := ⟨q.toNat, by omega⟩
      simp only [← nIJ]
      refine Ex_aload_n d_rm_find_16 rfl ?_
      refine Ex_iload_n d_rm_find_17 rfl ?_
      refine Ex_pV1 (v := .int (bI (tfB (fullP P b)))) d_rm_find_18 pk_rm_find_275 (t_38 hs) (rm_isFull_s hs hK hO hP hQ (p := b) (by omega)) ?_
      refine Ex_if_eqB (tfB (fullP P b)) 28 d_rm_find_21 rfl rfl (fun hc21 => ?_) (fun hc21 => ?_)
      · refine Ex_iconst d_rm_find_28 ic_m1 ?_
        refine Ex_ireturn d_rm_find_29 rfl ?_
        exact ⟨by unfold findS; rw [if_neg (by (try simp only [Int.toNat_natCast]); rintro ⟨z1, z2, z3, z4, z5, z6⟩; first | omega | exact absurd (z5.symm.trans hc21) (by decide))]; rfl, Fr.rf⟩
      · refine Ex_iload_n d_rm_find_24 rfl ?_
        refine Ex_if_geZ (k) 30 d_rm_find_25 rfl rfl (by omega) (fun hc25 => ?_) (fun hc25 => ?_)
        · obtain ⟨c, rfl⟩ : ∃ c : Nat, k = (c : Int) := ⟨k.toNat, by omega⟩
          simp only [← nIJ]
          refine Ex_iload_n d_rm_find_30 rfl ?_
          refine Ex_istore [some (.ref 38), some (.int (nI (a))), some (.int (nI (b))), some (.int (nI (c))), some (.int (nI (c))), none, none, none, none] d_rm_find_31 (Nat.le_of_ble_eq_true rfl) rfl ?_
          refine Ex_iconst d_rm_find_33 ic_0 ?_
          refine Ex_istore [some (.ref 38), some (.int (nI (a))), some (.int (nI (b))), some (.int (nI (c))), some (.int (nI (c))), some (.int (0)), none, none, none] d_rm_find_34 (Nat.le_of_ble_eq_true rfl) rfl ?_
          have z := rm_find_L1 (S := S) (z3 := nI c) hs hK hO hP hQ (p := a) (by omega) (q := b) (by omega) (tfB_iff.mp hc21) (ln P a) 0 (by omega) c h (by omega) Fr.rf
          rw [show findS K P (a : Int) (b : Int) (c : Int) = vO (sc (fG K P a b) 28800 0 c) by unfold findS; rw [if_pos ⟨by omega, by omega, by omega, by omega, by rw [Int.toNat_natCast]; exact hc21, by omega⟩, Int.toNat_natCast, Int.toNat_natCast, Int.toNat_natCast]]
          exact z
        · refine Ex_iconst d_rm_find_28 ic_m1 ?_
          refine Ex_ireturn d_rm_find_29 rfl ?_
          exact ⟨by unfold findS; rw [if_neg (by (try simp only [Int.toNat_natCast]); rintro ⟨z1, z2, z3, z4, z5, z6⟩; first | omega | exact absurd (z5.symm.trans hc21) (by decide))]; rfl, Fr.rf⟩
