/-! The class: count, fits, period. -/
theorem to_count_L1 {S : mj_S} {Q : Option Value → mj_H → Prop} {h : mj_H} (hs : HT h) {K : SK} (hK : KC K h) (hO : KO K) {P : SP} {Y : OW} (hP : PC P Y h) (hQ : PO K.1 P) {p x y : Nat} (hp : p < pNp P) (hx : PaC1 P Y h p x y) {z : Int} (hz : -1 ≤ z ∧ z < 40) {z1 : Int32} {i : Nat} (hi : i < (pPat P p).length)
    (kx : Ex S to_count 106 [some (.ref 0), some (.int (z1)), some (.int (J (z))), some (.ref (x)), some (.int (nI (cAll (lp P p) z i + cRow (lp P p) z i (gL (lp P p) i)))), some (.int (nI (i))), some (.int (J (gO (lp P p) i))), some (.int (J (gO (lp P p) i + ((gL (lp P p) i : Nat) : Int)))), some (.int (J (gO (lp P p) i + ((gL (lp P p) i : Nat) : Int))))] [] h Q) : ∀ d k : Nat, k + d = gL (lp P p) i → Ex S to_count 66 [some (.ref 0), some (.int (z1)), some (.int (J (z))), some (.ref (x)), some (.int (nI (cAll (lp P p) z i + cRow (lp P p) z i k))), some (.int (nI (i))), some (.int (J (gO (lp P p) i))), some (.int (J (gO (lp P p) i + ((gL (lp P p) i : Nat) : Int)))), some (.int (J (gO (lp P p) i + ((k : Nat) : Int))))] [] h Q := by
  have hok := hQ.2.2.2.1 p hp
  have hl60 := hok.1
  have hLO : LO K.1 (lp P p) := lv0_ok hQ hok
  have hB := hx.2.2
  have hS := Src_0 P (pPat P p)
  have hnp := hQ.2.2.1
  have hk40 := hO.1
  have hli := (hLO.2 i hi).1
  intro d
  induction d with
  | zero =>
    intro k hkk
    obtain rfl : gL (lp P p) i = k := by omega
    refine Ex_iload d_to_count_66 rfl ?_
    refine Ex_iload d_to_count_68 rfl ?_
    refine Ex_icmp_geZ (gO (lp P p) i + ((gL (lp P p) i : Nat) : Int)) (gO (lp P p) i + ((gL (lp P p) i : Nat) : Int)) 106 d_to_count_70 rfl rfl rfl (by omega) (by omega) (fun hc70 => ?_) (fun hc70 => ?_)
    · exact kx
    · exfalso; omega
  | succ d ih =>
    intro k hkk
    have hkl : k < gL (lp P p) i := by omega
    have hokc := (hLO.2 i hi).2 k hkl
    have hcl := cAll_le hLO z i (by show i ≤ (pPat P p).length; omega)
    have hcr := cRow_le (lp P p) z i k
    have hce := pa_cell_u (S := S) hs hP.1 hQ hB hok hS hi hkl
    match hcc : gX (lp P p) i k, hokc with
    | none, _ =>
      refine Ex_iload d_to_count_66 rfl ?_
      refine Ex_iload d_to_count_68 rfl ?_
      refine Ex_icmp_geZ (gO (lp P p) i + ((k : Nat) : Int)) (gO (lp P p) i + ((gL (lp P p) i : Nat) : Int)) 106 d_to_count_70 rfl rfl rfl (by omega) (by omega) (fun hc70 => ?_) (fun hc70 => ?_)
      · exfalso; omega
      · refine Ex_iload d_to_count_73 rfl ?_
        refine Ex_aload_n d_to_count_75 rfl ?_
        refine Ex_iload d_to_count_76 rfl ?_
        refine Ex_i2lZ (((i : Nat) : Int)) d_to_count_78 (nIJ _) (by omega) ?_
        refine Ex_iload d_to_count_79 rfl ?_
        refine Ex_i2lZ (gO (lp P p) i + ((k : Nat) : Int)) d_to_count_81 rfl (by omega) ?_
        refine Ex_pV2 (v := .int (-1)) d_to_count_82 pk_to_count_186 hB.1.1 (by have z2 := hce; rw [show gX (lv0 P (pPat P p)) i k = _ from hcc] at z2; exact z2) ?_
        refine Ex_pS1 (v := .int (-1)) d_to_count_85 pk_to_count_200 (ce_kindOf_n (by decide)) ?_
        refine Ex_iload_n d_to_count_88 rfl ?_
        refine Ex_icmp_neZ ((-1)) (z) 96 d_to_count_89 rfl (by decide) rfl (by omega) (by omega) (fun hc89 => ?_) (fun hc89 => ?_)
        · refine Ex_iconst d_to_count_96 ic_0 ?_
          refine Ex_iaddN (cAll (lp P p) z i + cRow (lp P p) z i k) (0) d_to_count_97 rfl rfl ?_
          refine Ex_istore [some (.ref 0), some (.int (z1)), some (.int (J (z))), some (.ref (x)), some (.int (nI ((cAll (lp P p) z i + cRow (lp P p) z i k) + 0))), some (.int (nI (i))), some (.int (J (gO (lp P p) i))), some (.int (J (gO (lp P p) i + ((gL (lp P p) i : Nat) : Int)))), some (.int (J (gO (lp P p) i + ((k : Nat) : Int))))] d_to_count_98 (Nat.le_of_ble_eq_true rfl) rfl ?_
          refine Ex_iincZ (gO (lp P p) i + ((k : Nat) : Int)) (1) [some (.ref 0), some (.int (z1)), some (.int (J (z))), some (.ref (x)), some (.int (nI ((cAll (lp P p) z i + cRow (lp P p) z i k) + 0))), some (.int (nI (i))), some (.int (J (gO (lp P p) i))), some (.int (J (gO (lp P p) i + ((gL (lp P p) i : Nat) : Int)))), some (.int (J ((gO (lp P p) i + ((k : Nat) : Int)) + (1))))] d_to_count_100 rfl rfl (by decide) rfl ?_
          refine Ex_goto 66 d_to_count_103 rfl ?_
          have z1 := ih (k + 1) (by omega)
          rw [show cRow (lp P p) z i (k + 1) = cRow (lp P p) z i k + 0 by
            show _ + _ = _
            rw [hcc]
            show _ + (if decide _ = true then 1 else 0) = _
            rw [decide_eq_false (by omega)]
            rfl, ← Nat.add_assoc] at z1
          rw [show gO (lp P p) i + ((k : Nat) : Int) + (1) = gO (lp P p) i + ((k + 1 : Nat) : Int) by omega]
          exact z1
        · refine Ex_iconst d_to_count_92 ic_1 ?_
          refine Ex_goto 97 d_to_count_93 rfl ?_
          refine Ex_iaddN (cAll (lp P p) z i + cRow (lp P p) z i k) (1) d_to_count_97 rfl rfl ?_
          refine Ex_istore [some (.ref 0), some (.int (z1)), some (.int (J (z))), some (.ref (x)), some (.int (nI ((cAll (lp P p) z i + cRow (lp P p) z i k) + 1))), some (.int (nI (i))), some (.int (J (gO (lp P p) i))), some (.int (J (gO (lp P p) i + ((gL (lp P p) i : Nat) : Int)))), some (.int (J (gO (lp P p) i + ((k : Nat) : Int))))] d_to_count_98 (Nat.le_of_ble_eq_true rfl) rfl ?_
          refine Ex_iincZ (gO (lp P p) i + ((k : Nat) : Int)) (1) [some (.ref 0), some (.int (z1)), some (.int (J (z))), some (.ref (x)), some (.int (nI ((cAll (lp P p) z i + cRow (lp P p) z i k) + 1))), some (.int (nI (i))), some (.int (J (gO (lp P p) i))), some (.int (J (gO (lp P p) i + ((gL (lp P p) i : Nat) : Int)))), some (.int (J ((gO (lp P p) i + ((k : Nat) : Int)) + (1))))] d_to_count_100 rfl rfl (by decide) rfl ?_
          refine Ex_goto 66 d_to_count_103 rfl ?_
          have z1 := ih (k + 1) (by omega)
          rw [show cRow (lp P p) z i (k + 1) = cRow (lp P p) z i k + 1 by
            show _ + _ = _
            rw [hcc]
            show _ + (if decide _ = true then 1 else 0) = _
            rw [decide_eq_true (by omega)]
            rfl, ← Nat.add_assoc] at z1
          rw [show gO (lp P p) i + ((k : Nat) : Int) + (1) = gO (lp P p) i + ((k + 1 : Nat) : Int) by omega]
          exact z1
    | some (b1, m1, s1), hokc =>
      have hb1 := hokc.1
      refine Ex_iload d_to_count_66 rfl ?_
      refine Ex_iload d_to_count_68 rfl ?_
      refine Ex_icmp_geZ (gO (lp P p) i + ((k : Nat) : Int)) (gO (lp P p) i + ((gL (lp P p) i : Nat) : Int)) 106 d_to_count_70 rfl rfl rfl (by omega) (by omega) (fun hc70 => ?_) (fun hc70 => ?_)
      · exfalso; omega
      · refine Ex_iload d_to_count_73 rfl ?_
        refine Ex_aload_n d_to_count_75 rfl ?_
        refine Ex_iload d_to_count_76 rfl ?_
        refine Ex_i2lZ (((i : Nat) : Int)) d_to_count_78 (nIJ _) (by omega) ?_
        refine Ex_iload d_to_count_79 rfl ?_
        refine Ex_i2lZ (gO (lp P p) i + ((k : Nat) : Int)) d_to_count_81 rfl (by omega) ?_
        refine Ex_pV2 (v := .int (eC (some (b1, m1, s1)))) d_to_count_82 pk_to_count_186 hB.1.1 (by have z2 := hce; rw [show gX (lv0 P (pPat P p)) i k = _ from hcc] at z2; exact z2) ?_
        refine Ex_pS1 (v := .int (nI (b1))) d_to_count_85 pk_to_count_200 (ce_kindOf_t (Nat.lt_of_lt_of_le hokc.1 hO.1) hokc.2.1 hokc.2.2) ?_
        refine Ex_iload_n d_to_count_88 rfl ?_
        refine Ex_icmp_neZ (((b1 : Nat) : Int)) (z) 96 d_to_count_89 rfl (nIJ _) rfl (by omega) (by omega) (fun hc89 => ?_) (fun hc89 => ?_)
        · refine Ex_iconst d_to_count_96 ic_0 ?_
          refine Ex_iaddN (cAll (lp P p) z i + cRow (lp P p) z i k) (0) d_to_count_97 rfl rfl ?_
          refine Ex_istore [some (.ref 0), some (.int (z1)), some (.int (J (z))), some (.ref (x)), some (.int (nI ((cAll (lp P p) z i + cRow (lp P p) z i k) + 0))), some (.int (nI (i))), some (.int (J (gO (lp P p) i))), some (.int (J (gO (lp P p) i + ((gL (lp P p) i : Nat) : Int)))), some (.int (J (gO (lp P p) i + ((k : Nat) : Int))))] d_to_count_98 (Nat.le_of_ble_eq_true rfl) rfl ?_
          refine Ex_iincZ (gO (lp P p) i + ((k : Nat) : Int)) (1) [some (.ref 0), some (.int (z1)), some (.int (J (z))), some (.ref (x)), some (.int (nI ((cAll (lp P p) z i + cRow (lp P p) z i k) + 0))), some (.int (nI (i))), some (.int (J (gO (lp P p) i))), some (.int (J (gO (lp P p) i + ((gL (lp P p) i : Nat) : Int)))), some (.int (J ((gO (lp P p) i + ((k : Nat) : Int)) + (1))))] d_to_count_100 rfl rfl (by decide) rfl ?_
          refine Ex_goto 66 d_to_count_103 rfl ?_
          have z1 := ih (k + 1) (by omega)
          rw [show cRow (lp P p) z i (k + 1) = cRow (lp P p) z i k + 0 by
            show _ + _ = _
            rw [hcc]
            show _ + (if decide _ = true then 1 else 0) = _
            rw [decide_eq_false (by omega)]
            rfl, ← Nat.add_assoc] at z1
          rw [show gO (lp P p) i + ((k : Nat) : Int) + (1) = gO (lp P p) i + ((k + 1 : Nat) : Int) by omega]
          exact z1
        · refine Ex_iconst d_to_count_92 ic_1 ?_
          refine Ex_goto 97 d_to_count_93 rfl ?_
          refine Ex_iaddN (cAll (lp P p) z i + cRow (lp P p) z i k) (1) d_to_count_97 rfl rfl ?_
          refine Ex_istore [some (.ref 0), some (.int (z1)), some (.int (J (z))), some (.ref (x)), some (.int (nI ((cAll (lp P p) z i + cRow (lp P p) z i k) + 1))), some (.int (nI (i))), some (.int (J (gO (lp P p) i))), some (.int (J (gO (lp P p) i + ((gL (lp P p) i : Nat) : Int)))), some (.int (J (gO (lp P p) i + ((k : Nat) : Int))))] d_to_count_98 (Nat.le_of_ble_eq_true rfl) rfl ?_
          refine Ex_iincZ (gO (lp P p) i + ((k : Nat) : Int)) (1) [some (.ref 0), some (.int (z1)), some (.int (J (z))), some (.ref (x)), some (.int (nI ((cAll (lp P p) z i + cRow (lp P p) z i k) + 1))), some (.int (nI (i))), some (.int (J (gO (lp P p) i))), some (.int (J (gO (lp P p) i + ((gL (lp P p) i : Nat) : Int)))), some (.int (J ((gO (lp P p) i + ((k : Nat) : Int)) + (1))))] d_to_count_100 rfl rfl (by decide) rfl ?_
          refine Ex_goto 66 d_to_count_103 rfl ?_
          have z1 := ih (k + 1) (by omega)
          rw [show cRow (lp P p) z i (k + 1) = cRow (lp P p) z i k + 1 by
            show _ + _ = _
            rw [hcc]
            show _ + (if decide _ = true then 1 else 0) = _
            rw [decide_eq_true (by omega)]
            rfl, ← Nat.add_assoc] at z1
          rw [show gO (lp P p) i + ((k : Nat) : Int) + (1) = gO (lp P p) i + ((k + 1 : Nat) : Int) by omega]
          exact z1
theorem to_count_L2 {S : mj_S} {Q : Option Value → mj_H → Prop} {h : mj_H} (hs : HT h) {K : SK} (hK : KC K h) (hO : KO K) {P : SP} {Y : OW} (hP : PC P Y h) (hQ : PO K.1 P) {p x y : Nat} (hp : p < pNp P) (hx : PaC1 P Y h p x y) {z : Int} (hz : -1 ≤ z ∧ z < 40) {z1 : Int32}
    (kx : Ex S to_count 112 [some (.ref 0), some (.int (z1)), some (.int (J (z))), some (.ref (x)), some (.int (nI (cAll (lp P p) z ((pPat P p).length)))), some (.int (nI ((pPat P p).length))), none, none, none] [] h Q) : ∀ d i : Nat, i + d = (pPat P p).length → Ex S to_count 34 [some (.ref 0), some (.int (z1)), some (.int (J (z))), some (.ref (x)), some (.int (nI (cAll (lp P p) z i))), some (.int (nI (i))), none, none, none] [] h Q := by
  have hok := hQ.2.2.2.1 p hp
  have hl60 := hok.1
  have hLO : LO K.1 (lp P p) := lv0_ok hQ hok
  have hB := hx.2.2
  have hS := Src_0 P (pPat P p)
  have hnp := hQ.2.2.1
  have hk40 := hO.1
  intro d
  induction d with
  | zero =>
    intro i hkk
    obtain rfl : (pPat P p).length = i := by omega
    refine Ex_iload d_to_count_34 rfl ?_
    refine Ex_aload_n d_to_count_36 rfl ?_
    refine Ex_getIE (y := (nI ((pPat P p).length))) d_to_count_37 pf_to_143 rfl hB.1.1 hB.2.1 ?_
    refine Ex_icmp_geN ((pPat P p).length) ((pPat P p).length) 112 d_to_count_40 rfl rfl rfl (by omega) (by omega) (fun hc40 => ?_) (fun hc40 => ?_)
    · exact kx
    · exfalso; omega
  | succ d ih =>
    intro i hkk
    have hi : i < (pPat P p).length := by omega
    have hli := (hLO.2 i hi).1
    refine Ex_iload d_to_count_34 rfl ?_
    refine Ex_aload_n d_to_count_36 rfl ?_
    refine Ex_getIE (y := (nI ((pPat P p).length))) d_to_count_37 pf_to_143 rfl hB.1.1 hB.2.1 ?_
    refine Ex_icmp_geN (i) ((pPat P p).length) 112 d_to_count_40 rfl rfl rfl (by omega) (by omega) (fun hc40 => ?_) (fun hc40 => ?_)
    · exfalso; omega
    · refine Ex_aload_n d_to_count_43 rfl ?_
      refine Ex_iload d_to_count_44 rfl ?_
      refine Ex_pV1 (v := .int (J (gO (lp P p) i))) d_to_count_46 pk_to_count_215 hB.1.1 (pa_off_u hs hP.1 hQ hB hok hS hi) ?_
      refine Ex_istore [some (.ref 0), some (.int (z1)), some (.int (J (z))), some (.ref (x)), some (.int (nI (cAll (lp P p) z i))), some (.int (nI (i))), some (.int (J (gO (lp P p) i))), none, none] d_to_count_49 (Nat.le_of_ble_eq_true rfl) rfl ?_
      refine Ex_iload d_to_count_51 rfl ?_
      refine Ex_aload_n d_to_count_53 rfl ?_
      refine Ex_iload d_to_count_54 rfl ?_
      refine Ex_pV1 (v := .int (nI (gL (lp P p) i))) d_to_count_56 pk_to_count_212 hB.1.1 (pa_len_u hs hP.1 hQ hB hok hS hi) ?_
      refine Ex_iaddZ (gO (lp P p) i) (((gL (lp P p) i : Nat) : Int)) d_to_count_59 rfl (nIJ _) ?_
      refine Ex_istore [some (.ref 0), some (.int (z1)), some (.int (J (z))), some (.ref (x)), some (.int (nI (cAll (lp P p) z i))), some (.int (nI (i))), some (.int (J (gO (lp P p) i))), some (.int (J ((gO (lp P p) i) + (((gL (lp P p) i : Nat) : Int))))), none] d_to_count_60 (Nat.le_of_ble_eq_true rfl) rfl ?_
      refine Ex_iload d_to_count_62 rfl ?_
      refine Ex_istore [some (.ref 0), some (.int (z1)), some (.int (J (z))), some (.ref (x)), some (.int (nI (cAll (lp P p) z i))), some (.int (nI (i))), some (.int (J (gO (lp P p) i))), some (.int (J ((gO (lp P p) i) + (((gL (lp P p) i : Nat) : Int))))), some (.int (J (gO (lp P p) i)))] d_to_count_64 (Nat.le_of_ble_eq_true rfl) rfl ?_
      refine (fun q => by rw [show (gO (lp P p) i : Int) + ((0 : Nat) : Int) = gO (lp P p) i from Int.add_zero _] at q; exact q) (to_count_L1 (S := S) (Q := Q) hs hK hO hP hQ hp hx hz hi ?_ (gL (lp P p) i) 0 (by omega))
      refine Ex_iincN (i) 1 [some (.ref 0), some (.int (z1)), some (.int (J (z))), some (.ref (x)), some (.int (nI (cAll (lp P p) z i + cRow (lp P p) z i (gL (lp P p) i)))), some (.int (nI (i + 1))), some (.int (J (gO (lp P p) i))), some (.int (J (gO (lp P p) i + ((gL (lp P p) i : Nat) : Int)))), some (.int (J (gO (lp P p) i + ((gL (lp P p) i : Nat) : Int))))] d_to_count_106 rfl rfl rfl rfl ?_
      refine Ex_goto 34 d_to_count_109 rfl ?_
      refine Ex_forget (ls' := [some (.ref 0), some (.int (z1)), some (.int (J (z))), some (.ref (x)), some (.int (nI (cAll (lp P p) z i + cRow (lp P p) z i (gL (lp P p) i)))), some (.int (nI (i + 1))), none, none, none]) (sub_s (sub_s (sub_s (sub_s (sub_s (sub_s (sub_n (sub_n (sub_n sub_0))))))))) ?_
      exact ih (i + 1) (by omega)
theorem to_count_s {S : mj_S} {h : mj_H} (hs : HT h) {K : SK} (hK : KC K h) (hO : KO K) {P : SP} {Y : OW} (hP : PC P Y h) (hQ : PO K.1 P) {p k : Int} (hp : -2147483648 ≤ p ∧ p < 2147483648) (hk : -2147483648 ≤ k ∧ k < 2147483648) : Cl S to_count [.ref 0, .int (J (p)), .int (J (k))] h (Pu (.int (J (countS K P p k))) h) := by
  show Ex S to_count 0 [some (.ref 0), some (.int (J (p))), some (.int (J (k))), none, none, none, none, none, none] [] h _
  have hnp := hQ.2.2.1
  have hmd : pMd P ≤ 6000 := hQ.1
  have hk40 := hO.1
  by_cases hpp : 0 ≤ p ∧ p < pNp P
  · obtain ⟨x, y, hx⟩ := hP.2.1.2 p.toNat (by omega)
    have hB := hx.2.2
    have hok := hQ.2.2.2.1 p.toNat (by omega)
    have hlen := hok.1
    have hx74 := hx.1.1
    have hy74 := hx.1.2.1
    refine Ex_aload_n d_to_count_0 rfl ?_
    refine Ex_iload_n d_to_count_1 rfl ?_
    refine Ex_pV1 (v := .ref (x)) d_to_count_2 pk_to_count_139 (t_0 hs) (to_patternOf_z hs hP hQ hpp hx) ?_
    refine Ex_astore_n [some (.ref 0), some (.int (J (p))), some (.int (J (k))), some (.ref (x)), none, none, none, none, none] d_to_count_5 (Nat.le_of_ble_eq_true rfl) rfl ?_
    refine Ex_aload_n d_to_count_6 rfl ?_
    refine Ex_ifnull d_to_count_7 ?_
    refine Ex_iload_n d_to_count_10 rfl ?_
    refine Ex_iconst d_to_count_11 ic_m1 ?_
    refine Ex_icmp_eqZ (k) ((-1)) 28 d_to_count_12 rfl rfl (by decide) (by omega) (by omega) (fun hc12 => ?_) (fun hc12 => ?_)
    · refine Ex_iconst d_to_count_28 ic_0 ?_
      refine Ex_istore [some (.ref 0), some (.int (J (p))), some (.int (J (k))), some (.ref (x)), some (.int (0)), none, none, none, none] d_to_count_29 (Nat.le_of_ble_eq_true rfl) rfl ?_
      refine Ex_iconst d_to_count_31 ic_0 ?_
      refine Ex_istore [some (.ref 0), some (.int (J (p))), some (.int (J (k))), some (.ref (x)), some (.int (0)), some (.int (0)), none, none, none] d_to_count_32 (Nat.le_of_ble_eq_true rfl) rfl ?_
      refine to_count_L2 hs hK hO hP hQ (p := p.toNat) (by omega) hx (z := k) (by omega) ?_ (pPat P p.toNat).length 0 (by omega)
      refine Ex_iload d_to_count_112 rfl ?_
      refine Ex_ireturn d_to_count_114 rfl ?_
      exact Pu_nz (by unfold countS; rw [if_pos (by unfold okCt; omega)])
    · refine Ex_aload_n d_to_count_15 rfl ?_
      refine Ex_getR (v := .ref 1) d_to_count_16 pf_to_20 rfl (t_0 hs) (r_0_0 hs) ?_
      refine Ex_iload_n d_to_count_19 rfl ?_
      refine Ex_pV1 (v := .int (bI (decide (0 ≤ k ∧ k < K.1)))) d_to_count_20 pk_to_count_110 (t_1 hs) (ki_has_s hs hK hO hk) ?_
      refine Ex_if_neB (decide (0 ≤ k ∧ k < K.1)) 28 d_to_count_23 rfl rfl (fun hc23 => ?_) (fun hc23 => ?_)
      · rw [decide_eq_true_eq] at hc23
        refine Ex_iconst d_to_count_28 ic_0 ?_
        refine Ex_istore [some (.ref 0), some (.int (J (p))), some (.int (J (k))), some (.ref (x)), some (.int (0)), none, none, none, none] d_to_count_29 (Nat.le_of_ble_eq_true rfl) rfl ?_
        refine Ex_iconst d_to_count_31 ic_0 ?_
        refine Ex_istore [some (.ref 0), some (.int (J (p))), some (.int (J (k))), some (.ref (x)), some (.int (0)), some (.int (0)), none, none, none] d_to_count_32 (Nat.le_of_ble_eq_true rfl) rfl ?_
        refine to_count_L2 hs hK hO hP hQ (p := p.toNat) (by omega) hx (z := k) (by omega) ?_ (pPat P p.toNat).length 0 (by omega)
        refine Ex_iload d_to_count_112 rfl ?_
        refine Ex_ireturn d_to_count_114 rfl ?_
        exact Pu_nz (by unfold countS; rw [if_pos (by unfold okCt; omega)])
      · rw [decide_eq_false_iff_not] at hc23
        refine Ex_iconst d_to_count_26 ic_m1 ?_
        refine Ex_ireturn d_to_count_27 rfl ?_
        exact Pu_m1 (by unfold countS; rw [if_neg (by unfold okCt; omega)])
  · refine Ex_aload_n d_to_count_0 rfl ?_
    refine Ex_iload_n d_to_count_1 rfl ?_
    refine Ex_pV1 (v := .null) d_to_count_2 pk_to_count_139 (t_0 hs) (to_patternOf_n hs hP hQ hp hpp) ?_
    refine Ex_astore0_n [some (.ref 0), some (.int (J (p))), some (.int (J (k))), some (.null), none, none, none, none, none] d_to_count_5 (Nat.le_of_ble_eq_true rfl) rfl ?_
    refine Ex_aload0_n d_to_count_6 rfl ?_
    refine Ex_ifnull0 26 d_to_count_7 rfl ?_
    refine Ex_iconst d_to_count_26 ic_m1 ?_
    refine Ex_ireturn d_to_count_27 rfl ?_
    exact Pu_m1 (by unfold countS; rw [if_neg (by unfold okCt; omega)])
theorem to_fits_L1 {S : mj_S} {Q : Option Value → mj_H → Prop} {h : mj_H} (hs : HT h) {K : SK} (hK : KC K h) (hO : KO K) {P : SP} {Y : OW} (hP : PC P Y h) (hQ : PO K.1 P) {p x y : Nat} (hp : p < pNp P) (hx : PaC1 P Y h p x y) {z1 : Int32} {i : Nat} (hi : i < (pPat P p).length) : ∀ d k : Nat, k + d = gL (lp P p) i → (∀ v, first (fCell K P p i) d k = some v → Q (some (.int (J v))) h) → (first (fCell K P p i) d k = none → Ex S to_fits 152 [some (.ref 0), some (.int (z1)), some (.ref (x)), some (.int (nI (sumL (lp P p) i + (gL (lp P p) i)))), some (.int (nI (i))), some (.int (J (gO (lp P p) i))), some (.int (J (gO (lp P p) i + ((gL (lp P p) i : Nat) : Int)))), some (.int (J (gO (lp P p) i + ((gL (lp P p) i : Nat) : Int)))), none, none, none] [] h Q) → Ex S to_fits 49 [some (.ref 0), some (.int (z1)), some (.ref (x)), some (.int (nI (sumL (lp P p) i + k))), some (.int (nI (i))), some (.int (J (gO (lp P p) i))), some (.int (J (gO (lp P p) i + ((gL (lp P p) i : Nat) : Int)))), some (.int (J (gO (lp P p) i + ((k : Nat) : Int)))), none, none, none] [] h Q := by
  have hok := hQ.2.2.2.1 p hp
  have hl60 := hok.1
  have hLO : LO K.1 (lp P p) := lv0_ok hQ hok
  have hB := hx.2.2
  have hS := Src_0 P (pPat P p)
  have hnp := hQ.2.2.1
  have hk40 := hO.1
  have hli := (hLO.2 i hi).1
  intro d
  induction d with
  | zero =>
    intro k hkk kz kx
    obtain rfl : gL (lp P p) i = k := by omega
    refine Ex_iload d_to_fits_49 rfl ?_
    refine Ex_iload d_to_fits_51 rfl ?_
    refine Ex_icmp_geZ (gO (lp P p) i + ((gL (lp P p) i : Nat) : Int)) (gO (lp P p) i + ((gL (lp P p) i : Nat) : Int)) 152 d_to_fits_53 rfl rfl rfl (by omega) (by omega) (fun hc53 => ?_) (fun hc53 => ?_)
    · exact kx rfl
    · exfalso; omega
  | succ d ih =>
    intro k hkk kz kx
    have hkl : k < gL (lp P p) i := by omega
    have hokc := (hLO.2 i hi).2 k hkl
    have hsl := sumL_le hLO i (by show i ≤ (pPat P p).length; omega)
    refine Ex_iload d_to_fits_49 rfl ?_
    refine Ex_iload d_to_fits_51 rfl ?_
    refine Ex_icmp_geZ (gO (lp P p) i + ((k : Nat) : Int)) (gO (lp P p) i + ((gL (lp P p) i : Nat) : Int)) 152 d_to_fits_53 rfl rfl rfl (by omega) (by omega) (fun hc53 => ?_) (fun hc53 => ?_)
    · exfalso; omega
    · refine Ex_aload_n d_to_fits_56 rfl ?_
      refine Ex_iload d_to_fits_57 rfl ?_
      refine Ex_i2lZ (((i : Nat) : Int)) d_to_fits_59 (nIJ _) (by omega) ?_
      refine Ex_iload d_to_fits_60 rfl ?_
      refine Ex_i2lZ (gO (lp P p) i + ((k : Nat) : Int)) d_to_fits_62 rfl (by omega) ?_
      refine Ex_pV2 (v := .int (eA (some (gX (lp P p) i k)))) d_to_fits_63 pk_to_fits_186 hB.1.1 (pa_cell_u hs hP.1 hQ hB hok hS hi hkl) ?_
      refine Ex_istore [some (.ref 0), some (.int (z1)), some (.ref (x)), some (.int (nI (sumL (lp P p) i + k))), some (.int (nI (i))), some (.int (J (gO (lp P p) i))), some (.int (J (gO (lp P p) i + ((gL (lp P p) i : Nat) : Int)))), some (.int (J (gO (lp P p) i + ((k : Nat) : Int)))), some (.int (eA (some (gX (lp P p) i k)))), none, none] d_to_fits_66 (Nat.le_of_ble_eq_true rfl) rfl ?_
      refine Ex_aload_n d_to_fits_68 rfl ?_
      refine Ex_getR (v := .ref 1) d_to_fits_69 pf_to_20 rfl (t_0 hs) (r_0_0 hs) ?_
      refine Ex_iload d_to_fits_72 rfl ?_
      refine Ex_iconst d_to_fits_74 ic_1 ?_
      refine Ex_aload_n d_to_fits_75 rfl ?_
      refine Ex_iload d_to_fits_76 rfl ?_
      refine Ex_i2lZ (((i : Nat) : Int)) d_to_fits_78 (nIJ _) (by omega) ?_
      refine Ex_iload d_to_fits_79 rfl ?_
      refine Ex_iconst d_to_fits_81 ic_1 ?_
      refine Ex_iaddZ (gO (lp P p) i + ((k : Nat) : Int)) ((1)) d_to_fits_82 rfl (by decide) ?_
      refine Ex_i2lZ ((gO (lp P p) i + ((k : Nat) : Int)) + ((1))) d_to_fits_83 rfl (by omega) ?_
      refine Ex_pV2 (v := .int (eA (cAt P p (i : Int) (gO (lp P p) i + (k : Int) + 1)))) d_to_fits_84 pk_to_fits_186 hB.1.1 (pa_cellAt_s hs hP.1 hQ hB hok (by omega) (by omega)) ?_
      refine Ex_pV3 (v := .int (bI (fRt K P p i k))) d_to_fits_87 pk_to_fits_320 (t_1 hs) (ki_meet_s (c := some (gX (lp P p) i k)) (e := 1) hs hK hO hokc (cAt_ok hQ hp) (by omega)) ?_
      refine Ex_istore [some (.ref 0), some (.int (z1)), some (.ref (x)), some (.int (nI (sumL (lp P p) i + k))), some (.int (nI (i))), some (.int (J (gO (lp P p) i))), some (.int (J (gO (lp P p) i + ((gL (lp P p) i : Nat) : Int)))), some (.int (J (gO (lp P p) i + ((k : Nat) : Int)))), some (.int (eA (some (gX (lp P p) i k)))), some (.int (bI (fRt K P p i k))), none] d_to_fits_90 (Nat.le_of_ble_eq_true rfl) rfl ?_
      refine Ex_aload_n d_to_fits_92 rfl ?_
      refine Ex_getR (v := .ref 1) d_to_fits_93 pf_to_20 rfl (t_0 hs) (r_0_0 hs) ?_
      refine Ex_iload d_to_fits_96 rfl ?_
      refine Ex_iconst d_to_fits_98 ic_2 ?_
      refine Ex_aload_n d_to_fits_99 rfl ?_
      refine Ex_iload d_to_fits_100 rfl ?_
      refine Ex_iconst d_to_fits_102 ic_1 ?_
      refine Ex_iaddN (i) (1) d_to_fits_103 rfl rfl ?_
      refine Ex_i2lZ (((i + 1 : Nat) : Int)) d_to_fits_104 (nIJ _) (by omega) ?_
      refine Ex_iload d_to_fits_105 rfl ?_
      refine Ex_i2lZ (gO (lp P p) i + ((k : Nat) : Int)) d_to_fits_107 rfl (by omega) ?_
      refine Ex_pV2 (v := .int (eA (cAt P p ((i : Int) + 1) (gO (lp P p) i + (k : Int))))) d_to_fits_108 pk_to_fits_186 hB.1.1 (pa_cellAt_s hs hP.1 hQ hB hok (by omega) (by omega)) ?_
      refine Ex_pV3 (v := .int (bI (fBw K P p i k))) d_to_fits_111 pk_to_fits_320 (t_1 hs) (ki_meet_s (c := some (gX (lp P p) i k)) (e := 2) hs hK hO hokc (cAt_ok hQ hp) (by omega)) ?_
      refine Ex_istore [some (.ref 0), some (.int (z1)), some (.ref (x)), some (.int (nI (sumL (lp P p) i + k))), some (.int (nI (i))), some (.int (J (gO (lp P p) i))), some (.int (J (gO (lp P p) i + ((gL (lp P p) i : Nat) : Int)))), some (.int (J (gO (lp P p) i + ((k : Nat) : Int)))), some (.int (eA (some (gX (lp P p) i k)))), some (.int (bI (fRt K P p i k))), some (.int (bI (fBw K P p i k)))] d_to_fits_114 (Nat.le_of_ble_eq_true rfl) rfl ?_
      refine Ex_iload d_to_fits_116 rfl ?_
      refine Ex_if_eqB (fRt K P p i k) 126 d_to_fits_118 rfl rfl (fun hc118 => ?_) (fun hc118 => ?_)
      · rw [hc118]
        refine Ex_iconst d_to_fits_126 ic_1 ?_
        refine Ex_iconst d_to_fits_127 ic_2 ?_
        refine Ex_iload_n d_to_fits_128 rfl ?_
        refine Ex_imulN (2) (sumL (lp P p) i + k) d_to_fits_129 rfl rfl ?_
        refine Ex_iaddN (1) (2 * (sumL (lp P p) i + k)) d_to_fits_130 rfl rfl ?_
        refine Ex_iload d_to_fits_131 rfl ?_
        refine Ex_if_eqB (false) 140 d_to_fits_133 rfl rfl (fun hc133 => ?_) (fun hc133 => ?_)
        · refine Ex_iconst d_to_fits_140 ic_0 ?_
          refine Ex_iaddN (1 + (2 * (sumL (lp P p) i + k))) (0) d_to_fits_141 rfl rfl ?_
          refine Ex_ireturn d_to_fits_142 rfl ?_
          have hR : fRt K P p i k = false := by assumption
          have hfc : fCell K P p i k = some (1 + 2 * ((sumL (lp P p) i + k : Nat) : Int) + (0)) := by
            unfold fCell
            rw [if_neg (by rintro ⟨q1, q2⟩; rw [q1] at hR; cases hR), hR]
            rfl
          have z := kz _ (first_s hfc d)
          rw [show 1 + 2 * ((sumL (lp P p) i + k : Nat) : Int) + (0) = ((1 + 2 * (sumL (lp P p) i + k) + 0 : Nat) : Int) by omega, ← nIJ] at z
          exact z
        · cases hc133
      · rw [hc118]
        refine Ex_iload d_to_fits_121 rfl ?_
        refine Ex_if_neB (fBw K P p i k) 143 d_to_fits_123 rfl rfl (fun hc123 => ?_) (fun hc123 => ?_)
        · refine Ex_iincN (sumL (lp P p) i + k) 1 [some (.ref 0), some (.int (z1)), some (.ref (x)), some (.int (nI ((sumL (lp P p) i + k) + 1))), some (.int (nI (i))), some (.int (J (gO (lp P p) i))), some (.int (J (gO (lp P p) i + ((gL (lp P p) i : Nat) : Int)))), some (.int (J (gO (lp P p) i + ((k : Nat) : Int)))), some (.int (eA (some (gX (lp P p) i k)))), some (.int (bI (true))), some (.int (bI (fBw K P p i k)))] d_to_fits_143 rfl rfl rfl rfl ?_
          refine Ex_iincZ (gO (lp P p) i + ((k : Nat) : Int)) (1) [some (.ref 0), some (.int (z1)), some (.ref (x)), some (.int (nI ((sumL (lp P p) i + k) + 1))), some (.int (nI (i))), some (.int (J (gO (lp P p) i))), some (.int (J (gO (lp P p) i + ((gL (lp P p) i : Nat) : Int)))), some (.int (J ((gO (lp P p) i + ((k : Nat) : Int)) + (1)))), some (.int (eA (some (gX (lp P p) i k)))), some (.int (bI (true))), some (.int (bI (fBw K P p i k)))] d_to_fits_146 rfl rfl (by decide) rfl ?_
          refine Ex_goto 49 d_to_fits_149 rfl ?_
          refine Ex_forget (ls' := [some (.ref 0), some (.int (z1)), some (.ref (x)), some (.int (nI ((sumL (lp P p) i + k) + 1))), some (.int (nI (i))), some (.int (J (gO (lp P p) i))), some (.int (J (gO (lp P p) i + ((gL (lp P p) i : Nat) : Int)))), some (.int (J ((gO (lp P p) i + ((k : Nat) : Int)) + (1)))), none, none, none]) (sub_s (sub_s (sub_s (sub_s (sub_s (sub_s (sub_s (sub_s (sub_n (sub_n (sub_n sub_0))))))))))) ?_
          have hR : fRt K P p i k = true := by assumption
          have hBw : fBw K P p i k = true := by assumption
          have hfc : fCell K P p i k = none := by unfold fCell; rw [if_pos ⟨hR, hBw⟩]
          rw [first_n hfc] at kz kx
          rw [Nat.add_assoc]
          rw [show gO (lp P p) i + ((k : Nat) : Int) + (1) = gO (lp P p) i + ((k + 1 : Nat) : Int) by omega]
          exact ih (k + 1) (by omega) kz kx
        · refine Ex_iconst d_to_fits_126 ic_1 ?_
          refine Ex_iconst d_to_fits_127 ic_2 ?_
          refine Ex_iload_n d_to_fits_128 rfl ?_
          refine Ex_imulN (2) (sumL (lp P p) i + k) d_to_fits_129 rfl rfl ?_
          refine Ex_iaddN (1) (2 * (sumL (lp P p) i + k)) d_to_fits_130 rfl rfl ?_
          refine Ex_iload d_to_fits_131 rfl ?_
          refine Ex_if_eqB (true) 140 d_to_fits_133 rfl rfl (fun hc133 => ?_) (fun hc133 => ?_)
          · cases hc133
          · refine Ex_iconst d_to_fits_136 ic_1 ?_
            refine Ex_goto 141 d_to_fits_137 rfl ?_
            refine Ex_iaddN (1 + (2 * (sumL (lp P p) i + k))) (1) d_to_fits_141 rfl rfl ?_
            refine Ex_ireturn d_to_fits_142 rfl ?_
            have hR : fRt K P p i k = true := by assumption
            have hBw : fBw K P p i k = false := by assumption
            have hfc : fCell K P p i k = some (1 + 2 * ((sumL (lp P p) i + k : Nat) : Int) + (1)) := by
              unfold fCell
              rw [if_neg (by rintro ⟨q1, q2⟩; rw [q2] at hBw; cases hBw), hR]
              rfl
            have z := kz _ (first_s hfc d)
            rw [show 1 + 2 * ((sumL (lp P p) i + k : Nat) : Int) + (1) = ((1 + 2 * (sumL (lp P p) i + k) + 1 : Nat) : Int) by omega, ← nIJ] at z
            exact z
theorem to_fits_L2 {S : mj_S} {Q : Option Value → mj_H → Prop} {h : mj_H} (hs : HT h) {K : SK} (hK : KC K h) (hO : KO K) {P : SP} {Y : OW} (hP : PC P Y h) (hQ : PO K.1 P) {p x y : Nat} (hp : p < pNp P) (hx : PaC1 P Y h p x y) {z1 : Int32} : ∀ d i : Nat, i + d = (pPat P p).length → (∀ v, first (fRow K P p) d i = some v → Q (some (.int (J v))) h) → (first (fRow K P p) d i = none → Q (some (.int 0)) h) → Ex S to_fits 17 [some (.ref 0), some (.int (z1)), some (.ref (x)), some (.int (nI (sumL (lp P p) i))), some (.int (nI (i))), none, none, none, none, none, none] [] h Q := by
  have hok := hQ.2.2.2.1 p hp
  have hl60 := hok.1
  have hLO : LO K.1 (lp P p) := lv0_ok hQ hok
  have hB := hx.2.2
  have hS := Src_0 P (pPat P p)
  have hnp := hQ.2.2.1
  have hk40 := hO.1
  intro d
  induction d with
  | zero =>
    intro i hii kz kx
    obtain rfl : (pPat P p).length = i := by omega
    refine Ex_iload d_to_fits_17 rfl ?_
    refine Ex_aload_n d_to_fits_19 rfl ?_
    refine Ex_getIE (y := (nI ((pPat P p).length))) d_to_fits_20 pf_to_143 rfl hB.1.1 hB.2.1 ?_
    refine Ex_icmp_geN ((pPat P p).length) ((pPat P p).length) 158 d_to_fits_23 rfl rfl rfl (by omega) (by omega) (fun hc23 => ?_) (fun hc23 => ?_)
    · refine Ex_iconst d_to_fits_158 ic_0 ?_
      refine Ex_ireturn d_to_fits_159 rfl ?_
      exact kx rfl
    · exfalso; omega
  | succ d ih =>
    intro i hii kz kx
    have hi : i < (pPat P p).length := by omega
    have hli := (hLO.2 i hi).1
    refine Ex_iload d_to_fits_17 rfl ?_
    refine Ex_aload_n d_to_fits_19 rfl ?_
    refine Ex_getIE (y := (nI ((pPat P p).length))) d_to_fits_20 pf_to_143 rfl hB.1.1 hB.2.1 ?_
    refine Ex_icmp_geN (i) ((pPat P p).length) 158 d_to_fits_23 rfl rfl rfl (by omega) (by omega) (fun hc23 => ?_) (fun hc23 => ?_)
    · exfalso; omega
    · refine Ex_aload_n d_to_fits_26 rfl ?_
      refine Ex_iload d_to_fits_27 rfl ?_
      refine Ex_pV1 (v := .int (J (gO (lp P p) i))) d_to_fits_29 pk_to_fits_215 hB.1.1 (pa_off_u hs hP.1 hQ hB hok hS hi) ?_
      refine Ex_istore [some (.ref 0), some (.int (z1)), some (.ref (x)), some (.int (nI (sumL (lp P p) i))), some (.int (nI (i))), some (.int (J (gO (lp P p) i))), none, none, none, none, none] d_to_fits_32 (Nat.le_of_ble_eq_true rfl) rfl ?_
      refine Ex_iload d_to_fits_34 rfl ?_
      refine Ex_aload_n d_to_fits_36 rfl ?_
      refine Ex_iload d_to_fits_37 rfl ?_
      refine Ex_pV1 (v := .int (nI (gL (lp P p) i))) d_to_fits_39 pk_to_fits_212 hB.1.1 (pa_len_u hs hP.1 hQ hB hok hS hi) ?_
      refine Ex_iaddZ (gO (lp P p) i) (((gL (lp P p) i : Nat) : Int)) d_to_fits_42 rfl (nIJ _) ?_
      refine Ex_istore [some (.ref 0), some (.int (z1)), some (.ref (x)), some (.int (nI (sumL (lp P p) i))), some (.int (nI (i))), some (.int (J (gO (lp P p) i))), some (.int (J ((gO (lp P p) i) + (((gL (lp P p) i : Nat) : Int))))), none, none, none, none] d_to_fits_43 (Nat.le_of_ble_eq_true rfl) rfl ?_
      refine Ex_iload d_to_fits_45 rfl ?_
      refine Ex_istore [some (.ref 0), some (.int (z1)), some (.ref (x)), some (.int (nI (sumL (lp P p) i))), some (.int (nI (i))), some (.int (J (gO (lp P p) i))), some (.int (J ((gO (lp P p) i) + (((gL (lp P p) i : Nat) : Int))))), some (.int (J (gO (lp P p) i))), none, none, none] d_to_fits_47 (Nat.le_of_ble_eq_true rfl) rfl ?_
      refine (fun q => by rw [show (gO (lp P p) i : Int) + ((0 : Nat) : Int) = gO (lp P p) i from Int.add_zero _] at q; exact q) (to_fits_L1 (S := S) (Q := Q) hs hK hO hP hQ hp hx hi (gL (lp P p) i) 0 (by omega) (fun v hv => kz v (first_s (f := fRow K P p) hv d)) (fun hn => ?_))
      have hn : fRow K P p i = none := hn
      refine Ex_iincN (i) 1 [some (.ref 0), some (.int (z1)), some (.ref (x)), some (.int (nI (sumL (lp P p) i + (gL (lp P p) i)))), some (.int (nI (i + 1))), some (.int (J (gO (lp P p) i))), some (.int (J (gO (lp P p) i + ((gL (lp P p) i : Nat) : Int)))), some (.int (J (gO (lp P p) i + ((gL (lp P p) i : Nat) : Int)))), none, none, none] d_to_fits_152 rfl rfl rfl rfl ?_
      refine Ex_goto 17 d_to_fits_155 rfl ?_
      refine Ex_forget (ls' := [some (.ref 0), some (.int (z1)), some (.ref (x)), some (.int (nI (sumL (lp P p) i + (gL (lp P p) i)))), some (.int (nI (i + 1))), none, none, none, none, none, none]) (sub_s (sub_s (sub_s (sub_s (sub_s (sub_n (sub_n (sub_n (sub_n (sub_n (sub_n sub_0))))))))))) ?_
      rw [first_n hn] at kz kx
      exact ih (i + 1) (by omega) kz kx
theorem to_fits_s {S : mj_S} {h : mj_H} (hs : HT h) {K : SK} (hK : KC K h) (hO : KO K) {P : SP} {Y : OW} (hP : PC P Y h) (hQ : PO K.1 P) {p : Int} (hp : -2147483648 ≤ p ∧ p < 2147483648) : Cl S to_fits [.ref 0, .int (J (p))] h (Pu (.int (J (fitsS K P p))) h) := by
  show Ex S to_fits 0 [some (.ref 0), some (.int (J (p))), none, none, none, none, none, none, none, none, none] [] h _
  have hnp := hQ.2.2.1
  have hmd : pMd P ≤ 6000 := hQ.1
  by_cases hpp : 0 ≤ p ∧ p < pNp P
  · obtain ⟨x, y, hx⟩ := hP.2.1.2 p.toNat (by omega)
    have hB := hx.2.2
    have hok := hQ.2.2.2.1 p.toNat (by omega)
    have hlen := hok.1
    have hx74 := hx.1.1
    have hy74 := hx.1.2.1
    refine Ex_aload_n d_to_fits_0 rfl ?_
    refine Ex_iload_n d_to_fits_1 rfl ?_
    refine Ex_pV1 (v := .ref (x)) d_to_fits_2 pk_to_fits_139 (t_0 hs) (to_patternOf_z hs hP hQ hpp hx) ?_
    refine Ex_astore_n [some (.ref 0), some (.int (J (p))), some (.ref (x)), none, none, none, none, none, none, none, none] d_to_fits_5 (Nat.le_of_ble_eq_true rfl) rfl ?_
    refine Ex_aload_n d_to_fits_6 rfl ?_
    refine Ex_ifnonnull 12 d_to_fits_7 rfl ?_
    refine Ex_iconst d_to_fits_12 ic_0 ?_
    refine Ex_istore_n [some (.ref 0), some (.int (J (p))), some (.ref (x)), some (.int (0)), none, none, none, none, none, none, none] d_to_fits_13 (Nat.le_of_ble_eq_true rfl) rfl ?_
    refine Ex_iconst d_to_fits_14 ic_0 ?_
    refine Ex_istore [some (.ref 0), some (.int (J (p))), some (.ref (x)), some (.int (0)), some (.int (0)), none, none, none, none, none, none] d_to_fits_15 (Nat.le_of_ble_eq_true rfl) rfl ?_
    refine to_fits_L2 hs hK hO hP hQ (p := p.toNat) (by omega) hx (pPat P p.toNat).length 0 (by omega) (fun v hv => Pu_z ?_) (fun hn => Pu_zc ?_)
    · unfold fitsS
      rw [if_pos (by omega), hv]
      rfl
    · unfold fitsS
      rw [if_pos (by omega), hn]
      rfl
  · refine Ex_aload_n d_to_fits_0 rfl ?_
    refine Ex_iload_n d_to_fits_1 rfl ?_
    refine Ex_pV1 (v := .null) d_to_fits_2 pk_to_fits_139 (t_0 hs) (to_patternOf_n hs hP hQ hp hpp) ?_
    refine Ex_astore0_n [some (.ref 0), some (.int (J (p))), some (.null), none, none, none, none, none, none, none, none] d_to_fits_5 (Nat.le_of_ble_eq_true rfl) rfl ?_
    refine Ex_aload0_n d_to_fits_6 rfl ?_
    refine Ex_ifnonnull0 d_to_fits_7 ?_
    refine Ex_iconst d_to_fits_10 ic_m1 ?_
    refine Ex_ireturn d_to_fits_11 rfl ?_
    exact Pu_m1 (by unfold fitsS; rw [if_neg (by omega)])
theorem to_rp_L1 {S : mj_S} {Q : Option Value → mj_H → Prop} {h : mj_H} (hs : HT h) {K : SK} (hK : KC K h) (hO : KO K) {P : SP} {Y : OW} (hP : PC P Y h) (hQ : PO K.1 P) {p x y : Nat} (hp : p < pNp P) (hx : PaC1 P Y h p x y) {d o : Nat} (hd : d ≤ 60) (ho : o ≤ 60) {i : Nat} (hi : i < (pPat P p).length) (kz : ¬ cgP P p d o → Q (some (.int 0)) h)
    (kx : (∀ k, k < gL (lp P p) i → (cAt P p ((i : Int) + (d : Int)) (gO (lp P p) i + (k : Int) + (o : Int)) = none ∨ cAt P p ((i : Int) + (d : Int)) (gO (lp P p) i + (k : Int) + (o : Int)) = some (gX (lp P p) i k))) → Ex S to_repeats 84 [some (.ref (x)), some (.int (nI (d))), some (.int (nI (o))), some (.int (nI (i))), some (.int (J (gO (lp P p) i))), some (.int (J (gO (lp P p) i + ((gL (lp P p) i : Nat) : Int)))), some (.int (J (gO (lp P p) i + ((gL (lp P p) i : Nat) : Int)))), none] [] h Q) : ∀ e k : Nat, k + e = gL (lp P p) i → (∀ k1, k1 < k → (cAt P p ((i : Int) + (d : Int)) (gO (lp P p) i + (k1 : Int) + (o : Int)) = none ∨ cAt P p ((i : Int) + (d : Int)) (gO (lp P p) i + (k1 : Int) + (o : Int)) = some (gX (lp P p) i k1))) → Ex S to_repeats 33 [some (.ref (x)), some (.int (nI (d))), some (.int (nI (o))), some (.int (nI (i))), some (.int (J (gO (lp P p) i))), some (.int (J (gO (lp P p) i + ((gL (lp P p) i : Nat) : Int)))), some (.int (J (gO (lp P p) i + ((k : Nat) : Int)))), none] [] h Q := by
  have hok := hQ.2.2.2.1 p hp
  have hl60 := hok.1
  have hLO : LO K.1 (lp P p) := lv0_ok hQ hok
  have hB := hx.2.2
  have hS := Src_0 P (pPat P p)
  have hnp := hQ.2.2.1
  have hk40 := hO.1
  have hli := (hLO.2 i hi).1
  intro e
  induction e with
  | zero =>
    intro k hkk hev
    obtain rfl : gL (lp P p) i = k := by omega
    refine Ex_iload d_to_repeats_33 rfl ?_
    refine Ex_iload d_to_repeats_35 rfl ?_
    refine Ex_icmp_geZ (gO (lp P p) i + ((gL (lp P p) i : Nat) : Int)) (gO (lp P p) i + ((gL (lp P p) i : Nat) : Int)) 84 d_to_repeats_37 rfl rfl rfl (by omega) (by omega) (fun hc37 => ?_) (fun hc37 => ?_)
    · exact kx hev
    · exfalso; omega
  | succ e ih =>
    intro k hkk hev
    have hkl : k < gL (lp P p) i := by omega
    have hokc := (hLO.2 i hi).2 k hkl
    have hoka : okA K.1 (cAt P p ((i : Int) + (d : Int)) (gO (lp P p) i + (k : Int) + (o : Int))) := cAt_ok hQ hp
    refine Ex_iload d_to_repeats_33 rfl ?_
    refine Ex_iload d_to_repeats_35 rfl ?_
    refine Ex_icmp_geZ (gO (lp P p) i + ((k : Nat) : Int)) (gO (lp P p) i + ((gL (lp P p) i : Nat) : Int)) 84 d_to_repeats_37 rfl rfl rfl (by omega) (by omega) (fun hc37 => ?_) (fun hc37 => ?_)
    · exfalso; omega
    · refine Ex_aload_n d_to_repeats_40 rfl ?_
      refine Ex_iload_n d_to_repeats_41 rfl ?_
      refine Ex_iload_n d_to_repeats_42 rfl ?_
      refine Ex_iaddN (i) (d) d_to_repeats_43 rfl rfl ?_
      refine Ex_i2lZ (((i + d : Nat) : Int)) d_to_repeats_44 (nIJ _) (by omega) ?_
      refine Ex_iload d_to_repeats_45 rfl ?_
      refine Ex_iload_n d_to_repeats_47 rfl ?_
      refine Ex_iaddZ (gO (lp P p) i + ((k : Nat) : Int)) (((o : Nat) : Int)) d_to_repeats_48 rfl (nIJ _) ?_
      refine Ex_i2lZ ((gO (lp P p) i + ((k : Nat) : Int)) + (((o : Nat) : Int))) d_to_repeats_49 rfl (by omega) ?_
      refine Ex_pV2 (v := .int (eA (cAt P p ((i : Int) + (d : Int)) (gO (lp P p) i + (k : Int) + (o : Int))))) d_to_repeats_50 pk_to_repeats_186 hB.1.1 (pa_cellAt_s hs hP.1 hQ hB hok (by omega) (by omega)) ?_
      refine Ex_istore [some (.ref (x)), some (.int (nI (d))), some (.int (nI (o))), some (.int (nI (i))), some (.int (J (gO (lp P p) i))), some (.int (J (gO (lp P p) i + ((gL (lp P p) i : Nat) : Int)))), some (.int (J (gO (lp P p) i + ((k : Nat) : Int)))), some (.int (eA (cAt P p ((i : Int) + (d : Int)) (gO (lp P p) i + (k : Int) + (o : Int)))))] d_to_repeats_53 (Nat.le_of_ble_eq_true rfl) rfl ?_
      refine Ex_iload d_to_repeats_55 rfl ?_
      refine Ex_bipush d_to_repeats_57 bp_m2 ?_
      refine Ex_icmp_eq 78 d_to_repeats_59 rfl (fun hc59 => ?_) (fun hc59 => ?_)
      · refine Ex_iincZ (gO (lp P p) i + ((k : Nat) : Int)) (1) [some (.ref (x)), some (.int (nI (d))), some (.int (nI (o))), some (.int (nI (i))), some (.int (J (gO (lp P p) i))), some (.int (J (gO (lp P p) i + ((gL (lp P p) i : Nat) : Int)))), some (.int (J ((gO (lp P p) i + ((k : Nat) : Int)) + (1)))), some (.int (eA (cAt P p ((i : Int) + (d : Int)) (gO (lp P p) i + (k : Int) + (o : Int)))))] d_to_repeats_78 rfl rfl (by decide) rfl ?_
        refine Ex_goto 33 d_to_repeats_81 rfl ?_
        refine Ex_forget (ls' := [some (.ref (x)), some (.int (nI (d))), some (.int (nI (o))), some (.int (nI (i))), some (.int (J (gO (lp P p) i))), some (.int (J (gO (lp P p) i + ((gL (lp P p) i : Nat) : Int)))), some (.int (J ((gO (lp P p) i + ((k : Nat) : Int)) + (1)))), none]) (sub_s (sub_s (sub_s (sub_s (sub_s (sub_s (sub_s (sub_n sub_0)))))))) ?_
        rw [show gO (lp P p) i + ((k : Nat) : Int) + (1) = gO (lp P p) i + ((k + 1 : Nat) : Int) by omega]
        refine ih (k + 1) (by omega) (fun k1 hk1 => ?_)
        by_cases hkk2 : k1 = k
        · rw [hkk2]
          first | exact Or.inl ((eA_m2 (okA_mono hoka hO.1)).mp hc59) | exact Or.inr ((eA_inj (okA_mono hoka hO.1) (b := some (gX (lp P p) i k)) (okT_mono hokc hO.1)).mp hc73)
        · exact hev k1 (by omega)
      · refine Ex_iload d_to_repeats_62 rfl ?_
        refine Ex_aload_n d_to_repeats_64 rfl ?_
        refine Ex_iload_n d_to_repeats_65 rfl ?_
        refine Ex_i2lZ (((i : Nat) : Int)) d_to_repeats_66 (nIJ _) (by omega) ?_
        refine Ex_iload d_to_repeats_67 rfl ?_
        refine Ex_i2lZ (gO (lp P p) i + ((k : Nat) : Int)) d_to_repeats_69 rfl (by omega) ?_
        refine Ex_pV2 (v := .int (eA (some (gX (lp P p) i k)))) d_to_repeats_70 pk_to_repeats_186 hB.1.1 (pa_cell_u hs hP.1 hQ hB hok hS hi hkl) ?_
        refine Ex_icmp_eq 78 d_to_repeats_73 rfl (fun hc73 => ?_) (fun hc73 => ?_)
        · refine Ex_iincZ (gO (lp P p) i + ((k : Nat) : Int)) (1) [some (.ref (x)), some (.int (nI (d))), some (.int (nI (o))), some (.int (nI (i))), some (.int (J (gO (lp P p) i))), some (.int (J (gO (lp P p) i + ((gL (lp P p) i : Nat) : Int)))), some (.int (J ((gO (lp P p) i + ((k : Nat) : Int)) + (1)))), some (.int (eA (cAt P p ((i : Int) + (d : Int)) (gO (lp P p) i + (k : Int) + (o : Int)))))] d_to_repeats_78 rfl rfl (by decide) rfl ?_
          refine Ex_goto 33 d_to_repeats_81 rfl ?_
          refine Ex_forget (ls' := [some (.ref (x)), some (.int (nI (d))), some (.int (nI (o))), some (.int (nI (i))), some (.int (J (gO (lp P p) i))), some (.int (J (gO (lp P p) i + ((gL (lp P p) i : Nat) : Int)))), some (.int (J ((gO (lp P p) i + ((k : Nat) : Int)) + (1)))), none]) (sub_s (sub_s (sub_s (sub_s (sub_s (sub_s (sub_s (sub_n sub_0)))))))) ?_
          rw [show gO (lp P p) i + ((k : Nat) : Int) + (1) = gO (lp P p) i + ((k + 1 : Nat) : Int) by omega]
          refine ih (k + 1) (by omega) (fun k1 hk1 => ?_)
          by_cases hkk2 : k1 = k
          · rw [hkk2]
            first | exact Or.inl ((eA_m2 (okA_mono hoka hO.1)).mp hc59) | exact Or.inr ((eA_inj (okA_mono hoka hO.1) (b := some (gX (lp P p) i k)) (okT_mono hokc hO.1)).mp hc73)
          · exact hev k1 (by omega)
        · refine Ex_iconst d_to_repeats_76 ic_0 ?_
          refine Ex_zreturn d_to_repeats_77 rfl (by decide) ?_
          refine kz (fun z => ?_)
          rcases z i hi k hkl with z | z
          · exact hc59 ((eA_m2 (okA_mono hoka hO.1)).mpr z)
          · exact hc73 ((eA_inj (okA_mono hoka hO.1) (b := some (gX (lp P p) i k)) (okT_mono hokc hO.1)).mpr z)
theorem to_rp_L2 {S : mj_S} {h : mj_H} (hs : HT h) {K : SK} (hK : KC K h) (hO : KO K) {P : SP} {Y : OW} (hP : PC P Y h) (hQ : PO K.1 P) {p x y : Nat} (hp : p < pNp P) (hx : PaC1 P Y h p x y) {d o : Nat} (hd : d ≤ 60) (ho : o ≤ 60) : ∀ e i : Nat, i + e = (pPat P p).length → (∀ i1, i1 < i → ∀ k, k < gL (lp P p) i1 → (cAt P p ((i1 : Int) + (d : Int)) (gO (lp P p) i1 + (k : Int) + (o : Int)) = none ∨ cAt P p ((i1 : Int) + (d : Int)) (gO (lp P p) i1 + (k : Int) + (o : Int)) = some (gX (lp P p) i1 k))) → Ex S to_repeats 2 [some (.ref (x)), some (.int (nI (d))), some (.int (nI (o))), some (.int (nI (i))), none, none, none, none] [] h (PuB (cgP P p d o) h) := by
  have hok := hQ.2.2.2.1 p hp
  have hl60 := hok.1
  have hLO : LO K.1 (lp P p) := lv0_ok hQ hok
  have hB := hx.2.2
  have hS := Src_0 P (pPat P p)
  have hnp := hQ.2.2.1
  have hk40 := hO.1
  intro e
  induction e with
  | zero =>
    intro i hii hev
    obtain rfl : (pPat P p).length = i := by omega
    refine Ex_iload_n d_to_repeats_2 rfl ?_
    refine Ex_iload_n d_to_repeats_3 rfl ?_
    refine Ex_iaddN ((pPat P p).length) (d) d_to_repeats_4 rfl rfl ?_
    refine Ex_aload_n d_to_repeats_5 rfl ?_
    refine Ex_getIE (y := (nI ((pPat P p).length))) d_to_repeats_6 pf_to_143 rfl hB.1.1 hB.2.1 ?_
    refine Ex_icmp_geN (((pPat P p).length) + d) ((pPat P p).length) 90 d_to_repeats_9 rfl rfl rfl (by omega) (by omega) (fun hc9 => ?_) (fun hc9 => ?_)
    · refine Ex_iconst d_to_repeats_90 ic_1 ?_
      refine Ex_zreturn d_to_repeats_91 rfl (by decide) ?_
      refine PuB_t (fun i1 hi1 k hk => ?_)
      by_cases hlt : i1 < (pPat P p).length
      · exact hev i1 hlt k hk
      · refine Or.inl ?_
        unfold cAt
        rw [if_neg (by omega)]
    · exfalso; omega
  | succ e ih =>
    intro i hii hev
    have hi : i < (pPat P p).length := by omega
    have hli := (hLO.2 i hi).1
    refine Ex_iload_n d_to_repeats_2 rfl ?_
    refine Ex_iload_n d_to_repeats_3 rfl ?_
    refine Ex_iaddN (i) (d) d_to_repeats_4 rfl rfl ?_
    refine Ex_aload_n d_to_repeats_5 rfl ?_
    refine Ex_getIE (y := (nI ((pPat P p).length))) d_to_repeats_6 pf_to_143 rfl hB.1.1 hB.2.1 ?_
    refine Ex_icmp_geN (i + d) ((pPat P p).length) 90 d_to_repeats_9 rfl rfl rfl (by omega) (by omega) (fun hc9 => ?_) (fun hc9 => ?_)
    · refine Ex_iconst d_to_repeats_90 ic_1 ?_
      refine Ex_zreturn d_to_repeats_91 rfl (by decide) ?_
      refine PuB_t (fun i1 hi1 k hk => ?_)
      by_cases hlt : i1 < i
      · exact hev i1 hlt k hk
      · refine Or.inl ?_
        unfold cAt
        rw [if_neg (by omega)]
    · refine Ex_aload_n d_to_repeats_12 rfl ?_
      refine Ex_iload_n d_to_repeats_13 rfl ?_
      refine Ex_pV1 (v := .int (J (gO (lp P p) i))) d_to_repeats_14 pk_to_repeats_215 hB.1.1 (pa_off_u hs hP.1 hQ hB hok hS hi) ?_
      refine Ex_istore [some (.ref (x)), some (.int (nI (d))), some (.int (nI (o))), some (.int (nI (i))), some (.int (J (gO (lp P p) i))), none, none, none] d_to_repeats_17 (Nat.le_of_ble_eq_true rfl) rfl ?_
      refine Ex_iload d_to_repeats_19 rfl ?_
      refine Ex_aload_n d_to_repeats_21 rfl ?_
      refine Ex_iload_n d_to_repeats_22 rfl ?_
      refine Ex_pV1 (v := .int (nI (gL (lp P p) i))) d_to_repeats_23 pk_to_repeats_212 hB.1.1 (pa_len_u hs hP.1 hQ hB hok hS hi) ?_
      refine Ex_iaddZ (gO (lp P p) i) (((gL (lp P p) i : Nat) : Int)) d_to_repeats_26 rfl (nIJ _) ?_
      refine Ex_istore [some (.ref (x)), some (.int (nI (d))), some (.int (nI (o))), some (.int (nI (i))), some (.int (J (gO (lp P p) i))), some (.int (J ((gO (lp P p) i) + (((gL (lp P p) i : Nat) : Int))))), none, none] d_to_repeats_27 (Nat.le_of_ble_eq_true rfl) rfl ?_
      refine Ex_iload d_to_repeats_29 rfl ?_
      refine Ex_istore [some (.ref (x)), some (.int (nI (d))), some (.int (nI (o))), some (.int (nI (i))), some (.int (J (gO (lp P p) i))), some (.int (J ((gO (lp P p) i) + (((gL (lp P p) i : Nat) : Int))))), some (.int (J (gO (lp P p) i))), none] d_to_repeats_31 (Nat.le_of_ble_eq_true rfl) rfl ?_
      refine (fun q => by rw [show (gO (lp P p) i : Int) + ((0 : Nat) : Int) = gO (lp P p) i from Int.add_zero _] at q; exact q) (to_rp_L1 (S := S) (Q := PuB (cgP P p d o) h) hs hK hO hP hQ hp hx hd ho hi (fun z => PuB_f z) (fun hod => ?_) (gL (lp P p) i) 0 (by omega) (fun k hk => absurd hk (by omega)))
      refine Ex_iincN (i) 1 [some (.ref (x)), some (.int (nI (d))), some (.int (nI (o))), some (.int (nI (i + 1))), some (.int (J (gO (lp P p) i))), some (.int (J (gO (lp P p) i + ((gL (lp P p) i : Nat) : Int)))), some (.int (J (gO (lp P p) i + ((gL (lp P p) i : Nat) : Int)))), none] d_to_repeats_84 rfl rfl rfl rfl ?_
      refine Ex_goto 2 d_to_repeats_87 rfl ?_
      refine Ex_forget (ls' := [some (.ref (x)), some (.int (nI (d))), some (.int (nI (o))), some (.int (nI (i + 1))), none, none, none, none]) (sub_s (sub_s (sub_s (sub_s (sub_n (sub_n (sub_n (sub_n sub_0)))))))) ?_
      refine ih (i + 1) (by omega) (fun i1 hi1 => ?_)
      by_cases hii2 : i1 = i
      · rw [hii2]; exact hod
      · exact hev i1 (by omega)
theorem to_repeats_s {S : mj_S} {h : mj_H} (hs : HT h) {K : SK} (hK : KC K h) (hO : KO K) {P : SP} {Y : OW} (hP : PC P Y h) (hQ : PO K.1 P) {p x y : Nat} (hp : p < pNp P) (hx : PaC1 P Y h p x y) {d o : Nat} (hd : d ≤ 60) (ho : o ≤ 60) : Cl S to_repeats [.ref (x), .int (nI (d)), .int (nI (o))] h (PuB (cgP P p d o) h) := by
  show Ex S to_repeats 0 [some (.ref (x)), some (.int (nI (d))), some (.int (nI (o))), none, none, none, none, none] [] h _
  refine Ex_iconst d_to_repeats_0 ic_0 ?_
  refine Ex_istore_n [some (.ref (x)), some (.int (nI (d))), some (.int (nI (o))), some (.int (0)), none, none, none, none] d_to_repeats_1 (Nat.le_of_ble_eq_true rfl) rfl ?_
  exact to_rp_L2 hs hK hO hP hQ hp hx hd ho (pPat P p).length 0 (by omega) (fun i hi => absurd hi (by omega))
theorem to_period_L {S : mj_S} {h : mj_H} (hs : HT h) {K : SK} (hK : KC K h) (hO : KO K) {P : SP} {Y : OW} (hP : PC P Y h) (hQ : PO K.1 P) {p : Int} {x y : Nat} (hp : 0 ≤ p ∧ p < pNp P) (hx : PaC1 P Y h p.toNat x y) {w : Int} (hw : 0 ≤ w ∧ w ≤ 1) {z1 : Int32} : ∀ e a : Nat, a + e = 60 → 1 ≤ a → (∀ b, 1 ≤ b → b < a → ¬ cgA P p.toNat w b) → Ex S to_period 24 [some (.ref 0), some (.int (z1)), some (.int (J (w))), some (.ref (x)), some (.int (nI (a)))] [] h (fun rv h' => h' = h ∧ ∃ v : Int, rv = some (.int (J v)) ∧ perS P p w v) := by
  intro e
  induction e with
  | zero =>
    intro a hae h1 hev
    obtain rfl : 60 = a := by omega
    have h60 := cg60 hQ (p := p.toNat) (by omega) w
    refine Ex_iload d_to_period_24 rfl ?_
    refine Ex_bipush d_to_period_26 bp_60 ?_
    refine Ex_icmp_geN (60) (60) 64 d_to_period_28 rfl rfl rfl (by omega) (by omega) (fun hc28 => ?_) (fun hc28 => ?_)
    · refine Ex_iload d_to_period_64 rfl ?_
      refine Ex_ireturn d_to_period_66 rfl ?_
      refine ⟨rfl, ((60 : Nat) : Int), by rw [nIJ], ?_⟩
      unfold perS
      rw [if_pos (by omega)]
      exact ⟨60, rfl, by omega, by omega, h60, hev⟩
    · exfalso; omega
  | succ e ih =>
    intro a hae h1 hev
    by_cases hw0 : w = 0
    · refine Ex_iload d_to_period_24 rfl ?_
      refine Ex_bipush d_to_period_26 bp_60 ?_
      refine Ex_icmp_geN (a) (60) 64 d_to_period_28 rfl rfl rfl (by omega) (by omega) (fun hc28 => ?_) (fun hc28 => ?_)
      · exfalso; omega
      · refine Ex_aload_n d_to_period_31 rfl ?_
        refine Ex_iload_n d_to_period_32 rfl ?_
        refine Ex_if_neZ (w) 41 d_to_period_33 rfl rfl (by omega) (fun hc33 => ?_) (fun hc33 => ?_)
        · exfalso; omega
        · refine Ex_iload d_to_period_36 rfl ?_
          refine Ex_goto 42 d_to_period_38 rfl ?_
          refine Ex_iload_n d_to_period_42 rfl ?_
          refine Ex_if_neZ (w) 50 d_to_period_43 rfl rfl (by omega) (fun hc43 => ?_) (fun hc43 => ?_)
          · exfalso; omega
          · refine Ex_iconst d_to_period_46 ic_0 ?_
            refine Ex_goto 52 d_to_period_47 rfl ?_
            refine Ex_cS3 d_to_period_52 pk_to_period_323 (to_repeats_s hs hK hO hP hQ (by omega) hx (d := a) (o := 0) (by omega) (by omega)) ?_
            rintro rv hh ⟨hhe, v, rfl, hv⟩
            rw [hhe]
            have hv : v = true ↔ cgA P p.toNat w a := by unfold cgA; rw [if_pos hw0, if_pos hw0]; exact hv
            show Ex S to_period 55 [some (.ref 0), some (.int (z1)), some (.int (J (w))), some (.ref (x)), some (.int (nI (a)))] [.int (bI (v))] h _
            refine Ex_if_neB (v) 64 d_to_period_55 rfl rfl (fun hc55 => ?_) (fun hc55 => ?_)
            · refine Ex_iload d_to_period_64 rfl ?_
              refine Ex_ireturn d_to_period_66 rfl ?_
              refine ⟨rfl, ((a : Nat) : Int), by rw [nIJ], ?_⟩
              unfold perS
              rw [if_pos (by omega)]
              exact ⟨a, rfl, by omega, by omega, hv.mp hc55, hev⟩
            · refine Ex_iincN (a) 1 [some (.ref 0), some (.int (z1)), some (.int (J (w))), some (.ref (x)), some (.int (nI (a + 1)))] d_to_period_58 rfl rfl rfl rfl ?_
              refine Ex_goto 24 d_to_period_61 rfl ?_
              refine ih (a + 1) (by omega) (by omega) (fun b hb hb2 => ?_)
              by_cases hba : b = a
              · rw [hba]; exact fun z => absurd (hv.mpr z) (by rw [hc55]; decide)
              · exact hev b hb (by omega)
    · refine Ex_iload d_to_period_24 rfl ?_
      refine Ex_bipush d_to_period_26 bp_60 ?_
      refine Ex_icmp_geN (a) (60) 64 d_to_period_28 rfl rfl rfl (by omega) (by omega) (fun hc28 => ?_) (fun hc28 => ?_)
      · exfalso; omega
      · refine Ex_aload_n d_to_period_31 rfl ?_
        refine Ex_iload_n d_to_period_32 rfl ?_
        refine Ex_if_neZ (w) 41 d_to_period_33 rfl rfl (by omega) (fun hc33 => ?_) (fun hc33 => ?_)
        · refine Ex_iconst d_to_period_41 ic_0 ?_
          refine Ex_iload_n d_to_period_42 rfl ?_
          refine Ex_if_neZ (w) 50 d_to_period_43 rfl rfl (by omega) (fun hc43 => ?_) (fun hc43 => ?_)
          · refine Ex_iload d_to_period_50 rfl ?_
            refine Ex_cS3 d_to_period_52 pk_to_period_323 (to_repeats_s hs hK hO hP hQ (by omega) hx (d := 0) (o := a) (by omega) (by omega)) ?_
            rintro rv hh ⟨hhe, v, rfl, hv⟩
            rw [hhe]
            have hv : v = true ↔ cgA P p.toNat w a := by unfold cgA; rw [if_neg hw0, if_neg hw0]; exact hv
            show Ex S to_period 55 [some (.ref 0), some (.int (z1)), some (.int (J (w))), some (.ref (x)), some (.int (nI (a)))] [.int (bI (v))] h _
            refine Ex_if_neB (v) 64 d_to_period_55 rfl rfl (fun hc55 => ?_) (fun hc55 => ?_)
            · refine Ex_iload d_to_period_64 rfl ?_
              refine Ex_ireturn d_to_period_66 rfl ?_
              refine ⟨rfl, ((a : Nat) : Int), by rw [nIJ], ?_⟩
              unfold perS
              rw [if_pos (by omega)]
              exact ⟨a, rfl, by omega, by omega, hv.mp hc55, hev⟩
            · refine Ex_iincN (a) 1 [some (.ref 0), some (.int (z1)), some (.int (J (w))), some (.ref (x)), some (.int (nI (a + 1)))] d_to_period_58 rfl rfl rfl rfl ?_
              refine Ex_goto 24 d_to_period_61 rfl ?_
              refine ih (a + 1) (by omega) (by omega) (fun b hb hb2 => ?_)
              by_cases hba : b = a
              · rw [hba]; exact fun z => absurd (hv.mpr z) (by rw [hc55]; decide)
              · exact hev b hb (by omega)
          · exfalso; omega
        · exfalso; omega
theorem to_period_s {S : mj_S} {h : mj_H} (hs : HT h) {K : SK} (hK : KC K h) (hO : KO K) {P : SP} {Y : OW} (hP : PC P Y h) (hQ : PO K.1 P) {p w : Int} (hp : -2147483648 ≤ p ∧ p < 2147483648) (hw : -2147483648 ≤ w ∧ w < 2147483648) : Cl S to_period [.ref 0, .int (J (p)), .int (J (w))] h (fun rv h' => h' = h ∧ ∃ v : Int, rv = some (.int (J v)) ∧ perS P p w v) := by
  show Ex S to_period 0 [some (.ref 0), some (.int (J (p))), some (.int (J (w))), none, none] [] h _
  have hnp := hQ.2.2.1
  have hmd : pMd P ≤ 6000 := hQ.1
  by_cases hpp : 0 ≤ p ∧ p < pNp P
  · obtain ⟨x, y, hx⟩ := hP.2.1.2 p.toNat (by omega)
    have hB := hx.2.2
    have hok := hQ.2.2.2.1 p.toNat (by omega)
    have hlen := hok.1
    have hx74 := hx.1.1
    have hy74 := hx.1.2.1
    refine Ex_aload_n d_to_period_0 rfl ?_
    refine Ex_iload_n d_to_period_1 rfl ?_
    refine Ex_pV1 (v := .ref (x)) d_to_period_2 pk_to_period_139 (t_0 hs) (to_patternOf_z hs hP hQ hpp hx) ?_
    refine Ex_astore_n [some (.ref 0), some (.int (J (p))), some (.int (J (w))), some (.ref (x)), none] d_to_period_5 (Nat.le_of_ble_eq_true rfl) rfl ?_
    refine Ex_aload_n d_to_period_6 rfl ?_
    refine Ex_ifnull d_to_period_7 ?_
    refine Ex_iload_n d_to_period_10 rfl ?_
    refine Ex_if_ltZ (w) 19 d_to_period_11 rfl rfl (by omega) (fun hc11 => ?_) (fun hc11 => ?_)
    · refine Ex_iconst d_to_period_19 ic_m1 ?_
      refine Ex_ireturn d_to_period_20 rfl ?_
      exact ⟨rfl, -1, rfl, by unfold perS; rw [if_neg (by omega)]⟩
    · refine Ex_iload_n d_to_period_14 rfl ?_
      refine Ex_iconst d_to_period_15 ic_1 ?_
      refine Ex_icmp_leZ (w) ((1)) 21 d_to_period_16 rfl rfl (by decide) (by omega) (by omega) (fun hc16 => ?_) (fun hc16 => ?_)
      · refine Ex_iconst d_to_period_21 ic_1 ?_
        refine Ex_istore [some (.ref 0), some (.int (J (p))), some (.int (J (w))), some (.ref (x)), some (.int (1))] d_to_period_22 (Nat.le_of_ble_eq_true rfl) rfl ?_
        exact to_period_L hs hK hO hP hQ hpp hx (by omega) 59 1 (by omega) (by omega) (fun b hb hb2 => absurd hb2 (by omega))
      · refine Ex_iconst d_to_period_19 ic_m1 ?_
        refine Ex_ireturn d_to_period_20 rfl ?_
        exact ⟨rfl, -1, rfl, by unfold perS; rw [if_neg (by omega)]⟩
  · refine Ex_aload_n d_to_period_0 rfl ?_
    refine Ex_iload_n d_to_period_1 rfl ?_
    refine Ex_pV1 (v := .null) d_to_period_2 pk_to_period_139 (t_0 hs) (to_patternOf_n hs hP hQ hp hpp) ?_
    refine Ex_astore0_n [some (.ref 0), some (.int (J (p))), some (.int (J (w))), some (.null), none] d_to_period_5 (Nat.le_of_ble_eq_true rfl) rfl ?_
    refine Ex_aload0_n d_to_period_6 rfl ?_
    refine Ex_ifnull0 19 d_to_period_7 rfl ?_
    refine Ex_iconst d_to_period_19 ic_m1 ?_
    refine Ex_ireturn d_to_period_20 rfl ?_
    exact ⟨rfl, -1, rfl, by unfold perS; rw [if_neg (by omega)]⟩
