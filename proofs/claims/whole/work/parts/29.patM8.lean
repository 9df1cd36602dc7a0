/-! The reference: shares, row. -/
abbrev okShares (P : SP) (p i q k : Int) : Prop := 0 ≤ p ∧ p < pNp P ∧ 0 ≤ q ∧ q < pNp P ∧ 0 ≤ i ∧ i < (pPat P p.toNat).length ∧ 0 ≤ k ∧ k < (pPat P q.toNat).length ∧ (pPat P p.toNat).getD i.toNat 0 = (pPat P q.toNat).getD k.toNat 0
def cP (P : SP) (r : Nat) : Nat → Nat
  | 0 => 0
  | q + 1 => cP P r q + (pPat P q).count r
def rowS (P : SP) (p i w : Int) : Int := if 0 ≤ p ∧ p < pNp P ∧ 0 ≤ i ∧ i < (pPat P p.toNat).length ∧ 0 ≤ w ∧ w ≤ 2 then (if w = 0 then (pL P ((pPat P p.toNat).getD i.toNat 0) : Int) else if w = 1 then pO P ((pPat P p.toNat).getD i.toNat 0) else (cP P ((pPat P p.toNat).getD i.toNat 0) (pNp P) : Int)) else -1
theorem cnt_s {l : List Nat} {k r : Nat} (hk : k < l.length) : (l.take (k + 1)).count r = (l.take k).count r + (if l.getD k 0 = r then 1 else 0) := by
  rw [List.take_add_one, List.count_append]
  congr 1
  rw [List.getD_eq_getElem?_getD, List.getElem?_eq_getElem hk]
  simp only [Option.toList_some, Option.getD_some, List.count_singleton]
  split
  · rename_i e
    rw [if_pos (by simpa using e)]
  · rename_i e
    rw [if_neg (by simpa using e)]
theorem rm_shares_s {S : mj_S} {h : mj_H} (hs : HT h) {P : SP} (hP : PM P h) {n : Nat} (hQ : PO n P) {p i q k : Int} (hp : -2147483648 ≤ p ∧ p < 2147483648) (hi : -2147483648 ≤ i ∧ i < 2147483648) (hq : -2147483648 ≤ q ∧ q < 2147483648) (hk : -2147483648 ≤ k ∧ k < 2147483648) : Cl S rm_shares [.ref 38, .int (J (p)), .int (J (i)), .int (J (q)), .int (J (k))] h (Pu (.int (bI (decide (okShares P p i q k)))) h) := by
  show Ex S rm_shares 0 [some (.ref 38), some (.int (J (p))), some (.int (J (i))), some (.int (J (q))), some (.int (J (k)))] [] h _
  refine Ex_aload_n d_rm_shares_0 rfl ?_
  refine Ex_iload_n d_rm_shares_1 rfl ?_
  refine Ex_pV1 d_rm_shares_2 pk_rm_shares_187 (t_38 hs) (rm_isPattern_s hs hP.2.1 hQ.2.2.1 hp) ?_
  refine Ex_if_eqB (decide (0 ≤ p ∧ p < pNp P)) 66 d_rm_shares_5 rfl rfl (fun hc5 => ?_) (fun hc5 => ?_)
  · rw [decide_eq_false_iff_not] at hc5
    refine Ex_iconst d_rm_shares_66 ic_0 ?_
    refine Ex_zreturn d_rm_shares_67 rfl (by decide) ?_
    exact Pu_f (by unfold okShares; (try simp only [Int.toNat_natCast]); omega)
  · rw [decide_eq_true_eq] at hc5
    refine Ex_aload_n d_rm_shares_8 rfl ?_
    refine Ex_iload_n d_rm_shares_9 rfl ?_
    refine Ex_pV1 d_rm_shares_10 pk_rm_shares_187 (t_38 hs) (rm_isPattern_s hs hP.2.1 hQ.2.2.1 hq) ?_
    refine Ex_if_eqB (decide (0 ≤ q ∧ q < pNp P)) 66 d_rm_shares_13 rfl rfl (fun hc13 => ?_) (fun hc13 => ?_)
    · rw [decide_eq_false_iff_not] at hc13
      refine Ex_iconst d_rm_shares_66 ic_0 ?_
      refine Ex_zreturn d_rm_shares_67 rfl (by decide) ?_
      exact Pu_f (by unfold okShares; (try simp only [Int.toNat_natCast]); omega)
    · rw [decide_eq_true_eq] at hc13
      obtain ⟨a, rfl⟩ : ∃ a : Nat, p = (a : Int) := ⟨p.toNat, by omega⟩
      obtain ⟨c, rfl⟩ : ∃ c : Nat, q = (c : Int) := ⟨q.toNat, by omega⟩
      simp only [← nIJ]
      have hlen := (hQ.2.2.2.1 a (by omega)).1
      have hlen2 := (hQ.2.2.2.1 c (by omega)).1
      have hnp := hQ.2.2.1
      have hmd : pMd P ≤ 6000 := hQ.1
      refine Ex_iload_n d_rm_shares_16 rfl ?_
      refine Ex_if_ltZ (i) 66 d_rm_shares_17 rfl rfl (by omega) (fun hc17 => ?_) (fun hc17 => ?_)
      · refine Ex_iconst d_rm_shares_66 ic_0 ?_
        refine Ex_zreturn d_rm_shares_67 rfl (by decide) ?_
        exact Pu_f (by unfold okShares; (try simp only [Int.toNat_natCast]); omega)
      · refine Ex_iload_n d_rm_shares_20 rfl ?_
        refine Ex_aload_n d_rm_shares_21 rfl ?_
        refine Ex_getR d_rm_shares_22 pf_rm_40 rfl (t_38 hs) (r_38_11 hs) ?_
        refine Ex_iload_n d_rm_shares_25 rfl ?_
        refine Ex_ialoadN (a := a) d_rm_shares_26 (t_48 hs) rfl (by omega) (by decide) (hP.2.1.2 a (by omega)).1 ?_
        refine Ex_icmp_geZ (i) ((((pPat P a).length : Nat) : Int)) 66 d_rm_shares_27 rfl rfl (nIJ _) (by omega) (by omega) (fun hc27 => ?_) (fun hc27 => ?_)
        · refine Ex_iconst d_rm_shares_66 ic_0 ?_
          refine Ex_zreturn d_rm_shares_67 rfl (by decide) ?_
          exact Pu_f (by unfold okShares; (try simp only [Int.toNat_natCast]); omega)
        · refine Ex_iload d_rm_shares_30 rfl ?_
          refine Ex_if_ltZ (k) 66 d_rm_shares_32 rfl rfl (by omega) (fun hc32 => ?_) (fun hc32 => ?_)
          · refine Ex_iconst d_rm_shares_66 ic_0 ?_
            refine Ex_zreturn d_rm_shares_67 rfl (by decide) ?_
            exact Pu_f (by unfold okShares; (try simp only [Int.toNat_natCast]); omega)
          · refine Ex_iload d_rm_shares_35 rfl ?_
            refine Ex_aload_n d_rm_shares_37 rfl ?_
            refine Ex_getR d_rm_shares_38 pf_rm_40 rfl (t_38 hs) (r_38_11 hs) ?_
            refine Ex_iload_n d_rm_shares_41 rfl ?_
            refine Ex_ialoadN (a := c) d_rm_shares_42 (t_48 hs) rfl (by omega) (by decide) (hP.2.1.2 c (by omega)).1 ?_
            refine Ex_icmp_geZ (k) ((((pPat P c).length : Nat) : Int)) 66 d_rm_shares_43 rfl rfl (nIJ _) (by omega) (by omega) (fun hc43 => ?_) (fun hc43 => ?_)
            · refine Ex_iconst d_rm_shares_66 ic_0 ?_
              refine Ex_zreturn d_rm_shares_67 rfl (by decide) ?_
              exact Pu_f (by unfold okShares; (try simp only [Int.toNat_natCast]); omega)
            · obtain ⟨b, rfl⟩ : ∃ b : Nat, i = (b : Int) := ⟨i.toNat, by omega⟩
              obtain ⟨d, rfl⟩ : ∃ d : Nat, k = (d : Int) := ⟨k.toNat, by omega⟩
              simp only [← nIJ]
              have hr1 := PO_row hQ (p := a) (i := b) (by omega) (by omega)
              have hr2 := PO_row hQ (p := c) (i := d) (by omega) (by omega)
              refine Ex_aload_n d_rm_shares_46 rfl ?_
              refine Ex_iload_n d_rm_shares_47 rfl ?_
              refine Ex_iload_n d_rm_shares_48 rfl ?_
              refine Ex_pV2 d_rm_shares_49 pk_rm_shares_175 (t_38 hs) (rm_rowOf_p hs hP.2.1 hQ (p := a) (i := b) (by omega) (by omega)) ?_
              refine Ex_aload_n d_rm_shares_52 rfl ?_
              refine Ex_iload_n d_rm_shares_53 rfl ?_
              refine Ex_iload d_rm_shares_54 rfl ?_
              refine Ex_pV2 d_rm_shares_56 pk_rm_shares_175 (t_38 hs) (rm_rowOf_p hs hP.2.1 hQ (p := c) (i := d) (by omega) (by omega)) ?_
              refine Ex_icmp_neN ((pPat P a).getD b 0) ((pPat P c).getD d 0) 66 d_rm_shares_59 rfl rfl rfl (by omega) (by omega) (fun hc59 => ?_) (fun hc59 => ?_)
              · refine Ex_iconst d_rm_shares_66 ic_0 ?_
                refine Ex_zreturn d_rm_shares_67 rfl (by decide) ?_
                exact Pu_f (by unfold okShares; (try simp only [Int.toNat_natCast]); omega)
              · refine Ex_iconst d_rm_shares_62 ic_1 ?_
                refine Ex_goto 67 d_rm_shares_63 rfl ?_
                refine Ex_zreturn d_rm_shares_67 rfl (by decide) ?_
                exact Pu_t (by unfold okShares; simp only [Int.toNat_natCast]; omega)
theorem rm_row_L1 {S : mj_S} {Q : Option Value → mj_H → Prop} {h : mj_H} (hs : HT h) {P : SP} (hP : PM P h) {n : Nat} (hQ : PO n P) {p0 i0 w0 : Int32} {r : Nat} (hr : r < pMd P) {q : Nat} (hq : q < pNp P)
    (kx : Ex S rm_row 127 [some (.ref 38), some (.int (p0)), some (.int (i0)), some (.int (w0)), some (.int (nI (r))), some (.int (nI (cP P r q + (pPat P q).count r))), some (.int (nI (q))), some (.int (nI ((pPat P q).length)))] [] h Q) : ∀ d k : Nat, k + d = (pPat P q).length → Ex S rm_row 86 [some (.ref 38), some (.int (p0)), some (.int (i0)), some (.int (w0)), some (.int (nI (r))), some (.int (nI (cP P r q + ((pPat P q).take k).count r))), some (.int (nI (q))), some (.int (nI (k)))] [] h Q := by
  have hlen := (hQ.2.2.2.1 q hq).1
  have hnp := hQ.2.2.1
  have hmd : pMd P ≤ 6000 := hQ.1
  intro d
  induction d with
  | zero =>
    intro k hk
    obtain rfl : k = (pPat P q).length := by omega
    rw [List.take_length]
    refine Ex_iload d_rm_row_86 rfl ?_
    refine Ex_aload_n d_rm_row_88 rfl ?_
    refine Ex_getR d_rm_row_89 pf_rm_40 rfl (t_38 hs) (r_38_11 hs) ?_
    refine Ex_iload d_rm_row_92 rfl ?_
    refine Ex_ialoadN (a := q) d_rm_row_94 (t_48 hs) rfl (by omega) (by decide) (hP.2.1.2 q hq).1 ?_
    refine Ex_icmp_geN ((pPat P q).length) ((pPat P q).length) 127 d_rm_row_95 rfl rfl rfl (by omega) (by omega) (fun hc95 => ?_) (fun hc95 => ?_)
    · exact kx
    · exfalso; omega
  | succ d ih =>
    intro k hk
    have hx := PO_row hQ hq (i := k) (by omega)
    have hcs := cnt_s (l := pPat P q) (k := k) (r := r) (by omega)
    refine Ex_iload d_rm_row_86 rfl ?_
    refine Ex_aload_n d_rm_row_88 rfl ?_
    refine Ex_getR d_rm_row_89 pf_rm_40 rfl (t_38 hs) (r_38_11 hs) ?_
    refine Ex_iload d_rm_row_92 rfl ?_
    refine Ex_ialoadN (a := q) d_rm_row_94 (t_48 hs) rfl (by omega) (by decide) (hP.2.1.2 q hq).1 ?_
    refine Ex_icmp_geN (k) ((pPat P q).length) 127 d_rm_row_95 rfl rfl rfl (by omega) (by omega) (fun hc95 => ?_) (fun hc95 => ?_)
    · exfalso; omega
    · refine Ex_iload d_rm_row_98 rfl ?_
      refine Ex_aload_n d_rm_row_100 rfl ?_
      refine Ex_iload d_rm_row_101 rfl ?_
      refine Ex_iload d_rm_row_103 rfl ?_
      refine Ex_pV2 d_rm_row_105 pk_rm_row_175 (t_38 hs) (rm_rowOf_p hs hP.2.1 hQ hq (by omega)) ?_
      refine Ex_iload d_rm_row_108 rfl ?_
      refine Ex_icmp_neN ((pPat P q).getD k 0) (r) 117 d_rm_row_110 rfl rfl rfl (by omega) (by omega) (fun hc110 => ?_) (fun hc110 => ?_)
      · refine Ex_iconst d_rm_row_117 ic_0 ?_
        refine Ex_iaddN (cP P r q + ((pPat P q).take k).count r) (0) d_rm_row_118 rfl rfl ?_
        refine Ex_istore [some (.ref 38), some (.int (p0)), some (.int (i0)), some (.int (w0)), some (.int (nI (r))), some (.int (nI ((cP P r q + ((pPat P q).take k).count r) + 0))), some (.int (nI (q))), some (.int (nI (k)))] d_rm_row_119 (Nat.le_of_ble_eq_true rfl) rfl ?_
        refine Ex_iincN (k) 1 [some (.ref 38), some (.int (p0)), some (.int (i0)), some (.int (w0)), some (.int (nI (r))), some (.int (nI ((cP P r q + ((pPat P q).take k).count r) + 0))), some (.int (nI (q))), some (.int (nI (k + 1)))] d_rm_row_121 rfl rfl rfl rfl ?_
        refine Ex_goto 86 d_rm_row_124 rfl ?_
        have z := ih (k + 1) (by omega)
        rw [hcs] at z
        first | (rw [if_pos (by assumption)] at z; exact z) | (rw [if_neg (by assumption)] at z; exact z)
      · refine Ex_iconst d_rm_row_113 ic_1 ?_
        refine Ex_goto 118 d_rm_row_114 rfl ?_
        refine Ex_iaddN (cP P r q + ((pPat P q).take k).count r) (1) d_rm_row_118 rfl rfl ?_
        refine Ex_istore [some (.ref 38), some (.int (p0)), some (.int (i0)), some (.int (w0)), some (.int (nI (r))), some (.int (nI ((cP P r q + ((pPat P q).take k).count r) + 1))), some (.int (nI (q))), some (.int (nI (k)))] d_rm_row_119 (Nat.le_of_ble_eq_true rfl) rfl ?_
        refine Ex_iincN (k) 1 [some (.ref 38), some (.int (p0)), some (.int (i0)), some (.int (w0)), some (.int (nI (r))), some (.int (nI ((cP P r q + ((pPat P q).take k).count r) + 1))), some (.int (nI (q))), some (.int (nI (k + 1)))] d_rm_row_121 rfl rfl rfl rfl ?_
        refine Ex_goto 86 d_rm_row_124 rfl ?_
        have z := ih (k + 1) (by omega)
        rw [hcs] at z
        first | (rw [if_pos (by assumption)] at z; exact z) | (rw [if_neg (by assumption)] at z; exact z)
theorem rm_row_L2 {S : mj_S} {Q : Option Value → mj_H → Prop} {h : mj_H} (hs : HT h) {P : SP} (hP : PM P h) {n : Nat} (hQ : PO n P) {p0 i0 w0 : Int32} {r : Nat} (hr : r < pMd P)
    (kx : Ex S rm_row 133 [some (.ref 38), some (.int (p0)), some (.int (i0)), some (.int (w0)), some (.int (nI (r))), some (.int (nI (cP P r (pNp P)))), some (.int (nI (pNp P))), none] [] h Q) : ∀ d q : Nat, q + d = pNp P → Ex S rm_row 74 [some (.ref 38), some (.int (p0)), some (.int (i0)), some (.int (w0)), some (.int (nI (r))), some (.int (nI (cP P r q))), some (.int (nI (q))), none] [] h Q := by
  have hnp := hQ.2.2.1
  intro d
  induction d with
  | zero =>
    intro q hq
    obtain rfl : q = pNp P := by omega
    refine Ex_iload d_rm_row_74 rfl ?_
    refine Ex_aload_n d_rm_row_76 rfl ?_
    refine Ex_getIE d_rm_row_77 pf_rm_169 rfl (t_38 hs) hP.2.1.1 ?_
    refine Ex_icmp_geN (pNp P) (pNp P) 133 d_rm_row_80 rfl rfl rfl (by omega) (by omega) (fun hc80 => ?_) (fun hc80 => ?_)
    · exact kx
    · exfalso; omega
  | succ d ih =>
    intro q hq
    refine Ex_iload d_rm_row_74 rfl ?_
    refine Ex_aload_n d_rm_row_76 rfl ?_
    refine Ex_getIE d_rm_row_77 pf_rm_169 rfl (t_38 hs) hP.2.1.1 ?_
    refine Ex_icmp_geN (q) (pNp P) 133 d_rm_row_80 rfl rfl rfl (by omega) (by omega) (fun hc80 => ?_) (fun hc80 => ?_)
    · exfalso; omega
    · refine Ex_iconst d_rm_row_83 ic_0 ?_
      refine Ex_istore [some (.ref 38), some (.int (p0)), some (.int (i0)), some (.int (w0)), some (.int (nI (r))), some (.int (nI (cP P r q))), some (.int (nI (q))), some (.int (0))] d_rm_row_84 (Nat.le_of_ble_eq_true rfl) rfl ?_
      refine rm_row_L1 hs hP hQ hr (show q < pNp P by omega) ?_ (pPat P q).length 0 (by omega)
      refine Ex_iincN (q) 1 [some (.ref 38), some (.int (p0)), some (.int (i0)), some (.int (w0)), some (.int (nI (r))), some (.int (nI (cP P r q + (pPat P q).count r))), some (.int (nI (q + 1))), some (.int (nI ((pPat P q).length)))] d_rm_row_127 rfl rfl rfl rfl ?_
      refine Ex_goto 74 d_rm_row_130 rfl ?_
      refine Ex_forget (ls' := [some (.ref 38), some (.int (p0)), some (.int (i0)), some (.int (w0)), some (.int (nI (r))), some (.int (nI (cP P r q + (pPat P q).count r))), some (.int (nI (q + 1))), none]) (sub_s (sub_s (sub_s (sub_s (sub_s (sub_s (sub_s (sub_n sub_0)))))))) ?_
      exact ih (q + 1) (by omega)
theorem rm_row_s {S : mj_S} {h : mj_H} (hs : HT h) {P : SP} (hP : PM P h) {n : Nat} (hQ : PO n P) {p i w : Int} (hp : -2147483648 ≤ p ∧ p < 2147483648) (hi : -2147483648 ≤ i ∧ i < 2147483648) (hw : -2147483648 ≤ w ∧ w < 2147483648) : Cl S rm_row [.ref 38, .int (J (p)), .int (J (i)), .int (J (w))] h (Pu (.int (J (rowS P p i w))) h) := by
  show Ex S rm_row 0 [some (.ref 38), some (.int (J (p))), some (.int (J (i))), some (.int (J (w))), none, none, none, none] [] h _
  refine Ex_aload_n d_rm_row_0 rfl ?_
  refine Ex_iload_n d_rm_row_1 rfl ?_
  refine Ex_pV1 d_rm_row_2 pk_rm_row_187 (t_38 hs) (rm_isPattern_s hs hP.2.1 hQ.2.2.1 hp) ?_
  refine Ex_if_eqB (decide (0 ≤ p ∧ p < pNp P)) 31 d_rm_row_5 rfl rfl (fun hc5 => ?_) (fun hc5 => ?_)
  · rw [decide_eq_false_iff_not] at hc5
    refine Ex_iconst d_rm_row_31 ic_m1 ?_
    refine Ex_ireturn d_rm_row_32 rfl ?_
    exact Pu_m1 (by unfold rowS; (try simp only [Int.toNat_natCast]); rw [if_neg (by omega)])
  · rw [decide_eq_true_eq] at hc5
    obtain ⟨a, rfl⟩ : ∃ a : Nat, p = (a : Int) := ⟨p.toNat, by omega⟩
    simp only [← nIJ]
    have hlen := (hQ.2.2.2.1 a (by omega)).1
    have hnp := hQ.2.2.1
    have hmd : pMd P ≤ 6000 := hQ.1
    refine Ex_iload_n d_rm_row_8 rfl ?_
    refine Ex_if_ltZ (i) 31 d_rm_row_9 rfl rfl (by omega) (fun hc9 => ?_) (fun hc9 => ?_)
    · refine Ex_iconst d_rm_row_31 ic_m1 ?_
      refine Ex_ireturn d_rm_row_32 rfl ?_
      exact Pu_m1 (by unfold rowS; (try simp only [Int.toNat_natCast]); rw [if_neg (by omega)])
    · refine Ex_iload_n d_rm_row_12 rfl ?_
      refine Ex_aload_n d_rm_row_13 rfl ?_
      refine Ex_getR d_rm_row_14 pf_rm_40 rfl (t_38 hs) (r_38_11 hs) ?_
      refine Ex_iload_n d_rm_row_17 rfl ?_
      refine Ex_ialoadN (a := a) d_rm_row_18 (t_48 hs) rfl (by omega) (by decide) (hP.2.1.2 a (by omega)).1 ?_
      refine Ex_icmp_geZ (i) ((((pPat P a).length : Nat) : Int)) 31 d_rm_row_19 rfl rfl (nIJ _) (by omega) (by omega) (fun hc19 => ?_) (fun hc19 => ?_)
      · refine Ex_iconst d_rm_row_31 ic_m1 ?_
        refine Ex_ireturn d_rm_row_32 rfl ?_
        exact Pu_m1 (by unfold rowS; (try simp only [Int.toNat_natCast]); rw [if_neg (by omega)])
      · refine Ex_iload_n d_rm_row_22 rfl ?_
        refine Ex_if_ltZ (w) 31 d_rm_row_23 rfl rfl (by omega) (fun hc23 => ?_) (fun hc23 => ?_)
        · refine Ex_iconst d_rm_row_31 ic_m1 ?_
          refine Ex_ireturn d_rm_row_32 rfl ?_
          exact Pu_m1 (by unfold rowS; (try simp only [Int.toNat_natCast]); rw [if_neg (by omega)])
        · refine Ex_iload_n d_rm_row_26 rfl ?_
          refine Ex_iconst d_rm_row_27 ic_2 ?_
          refine Ex_icmp_leZ (w) ((2)) 33 d_rm_row_28 rfl rfl (by decide) (by omega) (by omega) (fun hc28 => ?_) (fun hc28 => ?_)
          · obtain ⟨b, rfl⟩ : ∃ b : Nat, i = (b : Int) := ⟨i.toNat, by omega⟩
            simp only [← nIJ]
            have hr1 := PO_row hQ (p := a) (i := b) (by omega) (by omega)
            have hro := hQ.2.1 _ hr1
            refine Ex_aload_n d_rm_row_33 rfl ?_
            refine Ex_iload_n d_rm_row_34 rfl ?_
            refine Ex_iload_n d_rm_row_35 rfl ?_
            refine Ex_pV2 d_rm_row_36 pk_rm_row_175 (t_38 hs) (rm_rowOf_p hs hP.2.1 hQ (p := a) (i := b) (by omega) (by omega)) ?_
            refine Ex_istore [some (.ref 38), some (.int (nI (a))), some (.int (nI (b))), some (.int (J (w))), some (.int (nI ((pPat P a).getD b 0))), none, none, none] d_rm_row_39 (Nat.le_of_ble_eq_true rfl) rfl ?_
            refine Ex_iload_n d_rm_row_41 rfl ?_
            refine Ex_iconst d_rm_row_42 ic_2 ?_
            refine Ex_icmp_geZ (w) ((2)) 68 d_rm_row_43 rfl rfl (by decide) (by omega) (by omega) (fun hc43 => ?_) (fun hc43 => ?_)
            · refine Ex_iconst d_rm_row_68 ic_0 ?_
              refine Ex_istore [some (.ref 38), some (.int (nI (a))), some (.int (nI (b))), some (.int (J (w))), some (.int (nI ((pPat P a).getD b 0))), some (.int (0)), none, none] d_rm_row_69 (Nat.le_of_ble_eq_true rfl) rfl ?_
              refine Ex_iconst d_rm_row_71 ic_0 ?_
              refine Ex_istore [some (.ref 38), some (.int (nI (a))), some (.int (nI (b))), some (.int (J (w))), some (.int (nI ((pPat P a).getD b 0))), some (.int (0)), some (.int (0)), none] d_rm_row_72 (Nat.le_of_ble_eq_true rfl) rfl ?_
              refine rm_row_L2 hs hP hQ hr1 ?_ (pNp P) 0 (by omega)
              refine Ex_iload d_rm_row_133 rfl ?_
              refine Ex_ireturn d_rm_row_135 rfl ?_
              exact Pu_nz (by unfold rowS; simp only [Int.toNat_natCast]; rw [if_pos (by omega), if_neg (by omega), if_neg (by omega)])
            · refine Ex_iload_n d_rm_row_46 rfl ?_
              refine Ex_if_neZ (w) 60 d_rm_row_47 rfl rfl (by omega) (fun hc47 => ?_) (fun hc47 => ?_)
              · refine Ex_aload_n d_rm_row_60 rfl ?_
                refine Ex_getR d_rm_row_61 pf_rm_30 rfl (t_38 hs) (r_38_7 hs) ?_
                refine Ex_iload d_rm_row_64 rfl ?_
                refine Ex_ialoadN (a := (pPat P a).getD b 0) d_rm_row_66 (t_45 hs) rfl (by omega) (by decide) (hP.1.2 _ hr1).2.1 ?_
                refine Ex_ireturn d_rm_row_67 rfl ?_
                exact Pu_z (by unfold rowS; simp only [Int.toNat_natCast]; rw [if_pos (by omega), if_neg (by omega), if_pos (by omega)])
              · refine Ex_aload_n d_rm_row_50 rfl ?_
                refine Ex_getR d_rm_row_51 pf_rm_27 rfl (t_38 hs) (r_38_6 hs) ?_
                refine Ex_iload d_rm_row_54 rfl ?_
                refine Ex_ialoadN (a := (pPat P a).getD b 0) d_rm_row_56 (t_44 hs) rfl (by omega) (by decide) (hP.1.2 _ hr1).1 ?_
                refine Ex_goto 67 d_rm_row_57 rfl ?_
                refine Ex_ireturn d_rm_row_67 rfl ?_
                exact Pu_nz (by unfold rowS; simp only [Int.toNat_natCast]; rw [if_pos (by omega), if_pos (by omega)])
          · refine Ex_iconst d_rm_row_31 ic_m1 ?_
            refine Ex_ireturn d_rm_row_32 rfl ?_
            exact Pu_m1 (by unfold rowS; (try simp only [Int.toNat_natCast]); rw [if_neg (by omega)])
