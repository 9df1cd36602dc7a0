/-! The class: the board's places. -/
def BrC (F : SF) (f : Nat) (h : mj_H) : Prop := mI h 7 2 = nI (fR F f) ∧ mI h 7 3 = nI (fC F f)
def bsI (F : SF) (f : Nat) (i j : Int) : Int := if 0 ≤ i ∧ i < fR F f ∧ 0 ≤ j ∧ j < fC F f then i * 8 + j else -1
def dBi (e : Nat) : Int := if e = 2 then 1 else if e = 0 then -1 else 0
def dBj (e : Nat) : Int := if e = 1 then 1 else if e = 3 then -1 else 0
def bsd (F : SF) (f k e : Nat) : Int := bsI F f (((k / 8 : Nat) : Int) + dBi e) (((k % 8 : Nat) : Int) + dBj e)
theorem bo_beside_0 {S : mj_S} {h : mj_H} (hs : HT h) {F : SF} {n : Nat} (hFO : FO n F) {f : Nat} (hf : f < F.1) (hB : BrC F f h) {k : Nat} (hk : k < 64) : Cl S bo_beside [.ref 7, .int (nI (k)), .int (0)] h (Pu (.int (J (bsd F f k 0))) h) := by
  show Ex S bo_beside 0 [some (.ref 7), some (.int (nI (k))), some (.int (0)), none, none] [] h _
  have hsh := (hFO.2.2 f hf).1
  refine Ex_iload_n d_bo_beside_0 rfl ?_
  refine Ex_bipush d_bo_beside_1 bp_8 ?_
  refine Ex_idivN (k) (8) d_bo_beside_3 rfl rfl (by omega) (by omega) ?_
  refine Ex_iload_n d_bo_beside_4 rfl ?_
  refine Ex_iconst d_bo_beside_5 ic_2 ?_
  refine Ex_icmp_neN (0) (2) 13 d_bo_beside_6 rfl rfl rfl (by omega) (by omega) (fun hc6 => ?_) (fun hc6 => ?_)
  · refine Ex_iload_n d_bo_beside_13 rfl ?_
    refine Ex_if_neN (0) 21 d_bo_beside_14 rfl rfl (by omega) (fun hc14 => ?_) (fun hc14 => ?_)
    · exact absurd hc14 (by decide)
    · refine Ex_iconst d_bo_beside_17 ic_m1 ?_
      refine Ex_goto 22 d_bo_beside_18 rfl ?_
      refine Ex_iaddZ (((k / 8 : Nat) : Int)) ((-1)) d_bo_beside_22 (nIJ _) (by decide) ?_
      rw [show ((J ((((k / 8 : Nat) : Int)) + ((-1)))) : Int32) = (J (((k / 8 : Nat) : Int) + (-1))) from (by first | rfl | (rw [nIJ]; rfl))]
      refine Ex_istore_n [some (.ref 7), some (.int (nI (k))), some (.int (0)), some (.int (J (((k / 8 : Nat) : Int) + (-1)))), none] d_bo_beside_23 (Nat.le_of_ble_eq_true rfl) rfl ?_
      refine Ex_iload_n d_bo_beside_24 rfl ?_
      refine Ex_bipush d_bo_beside_25 bp_8 ?_
      refine Ex_iremN (k) (8) d_bo_beside_27 rfl rfl (by omega) (by omega) ?_
      refine Ex_iload_n d_bo_beside_28 rfl ?_
      refine Ex_iconst d_bo_beside_29 ic_1 ?_
      refine Ex_icmp_neN (0) (1) 37 d_bo_beside_30 rfl rfl rfl (by omega) (by omega) (fun hc30 => ?_) (fun hc30 => ?_)
      · refine Ex_iload_n d_bo_beside_37 rfl ?_
        refine Ex_iconst d_bo_beside_38 ic_3 ?_
        refine Ex_icmp_neN (0) (3) 46 d_bo_beside_39 rfl rfl rfl (by omega) (by omega) (fun hc39 => ?_) (fun hc39 => ?_)
        · refine Ex_iconst d_bo_beside_46 ic_0 ?_
          refine Ex_iaddN (k % 8) (0) d_bo_beside_47 rfl rfl ?_
          rw [show ((nI ((k % 8) + 0)) : Int32) = (J (((k % 8 : Nat) : Int) + (0))) from (by first | rfl | (rw [nIJ]; rfl))]
          refine Ex_istore [some (.ref 7), some (.int (nI (k))), some (.int (0)), some (.int (J (((k / 8 : Nat) : Int) + (-1)))), some (.int (J (((k % 8 : Nat) : Int) + (0))))] d_bo_beside_48 (Nat.le_of_ble_eq_true rfl) rfl ?_
          refine Ex_iload_n d_bo_beside_50 rfl ?_
          refine Ex_if_ltZ (((k / 8 : Nat) : Int) + (-1)) 86 d_bo_beside_51 rfl rfl (by omega) (fun hc51 => ?_) (fun hc51 => ?_)
          · refine Ex_iconst d_bo_beside_86 ic_m1 ?_
            refine Ex_ireturn d_bo_beside_87 rfl ?_
            refine ⟨?_, rfl⟩; unfold bsd bsI; rw [show dBi 0 = -1 from rfl, show dBj 0 = 0 from rfl, if_neg (show ¬ (0 ≤ ((k / 8 : Nat) : Int) + (-1) ∧ ((k / 8 : Nat) : Int) + (-1) < fR F f ∧ 0 ≤ ((k % 8 : Nat) : Int) + (0) ∧ ((k % 8 : Nat) : Int) + (0) < fC F f) by omega)]; rfl
          · refine Ex_iload_n d_bo_beside_54 rfl ?_
            refine Ex_aload_n d_bo_beside_55 rfl ?_
            refine Ex_getIE (y := (nI (fR F f))) d_bo_beside_56 pf_bo_53 rfl (t_7 hs) hB.1 ?_
            refine Ex_icmp_geZ (((k / 8 : Nat) : Int) + (-1)) (((fR F f : Nat) : Int)) 86 d_bo_beside_59 rfl rfl (nIJ _) (by omega) (by omega) (fun hc59 => ?_) (fun hc59 => ?_)
            · refine Ex_iconst d_bo_beside_86 ic_m1 ?_
              refine Ex_ireturn d_bo_beside_87 rfl ?_
              refine ⟨?_, rfl⟩; unfold bsd bsI; rw [show dBi 0 = -1 from rfl, show dBj 0 = 0 from rfl, if_neg (show ¬ (0 ≤ ((k / 8 : Nat) : Int) + (-1) ∧ ((k / 8 : Nat) : Int) + (-1) < fR F f ∧ 0 ≤ ((k % 8 : Nat) : Int) + (0) ∧ ((k % 8 : Nat) : Int) + (0) < fC F f) by omega)]; rfl
            · refine Ex_iload d_bo_beside_62 rfl ?_
              refine Ex_if_ltZ (((k % 8 : Nat) : Int) + (0)) 86 d_bo_beside_64 rfl rfl (by omega) (fun hc64 => ?_) (fun hc64 => ?_)
              · refine Ex_iconst d_bo_beside_86 ic_m1 ?_
                refine Ex_ireturn d_bo_beside_87 rfl ?_
                refine ⟨?_, rfl⟩; unfold bsd bsI; rw [show dBi 0 = -1 from rfl, show dBj 0 = 0 from rfl, if_neg (show ¬ (0 ≤ ((k / 8 : Nat) : Int) + (-1) ∧ ((k / 8 : Nat) : Int) + (-1) < fR F f ∧ 0 ≤ ((k % 8 : Nat) : Int) + (0) ∧ ((k % 8 : Nat) : Int) + (0) < fC F f) by omega)]; rfl
              · refine Ex_iload d_bo_beside_67 rfl ?_
                refine Ex_aload_n d_bo_beside_69 rfl ?_
                refine Ex_getIE (y := (nI (fC F f))) d_bo_beside_70 pf_bo_57 rfl (t_7 hs) hB.2 ?_
                refine Ex_icmp_geZ (((k % 8 : Nat) : Int) + (0)) (((fC F f : Nat) : Int)) 86 d_bo_beside_73 rfl rfl (nIJ _) (by omega) (by omega) (fun hc73 => ?_) (fun hc73 => ?_)
                · refine Ex_iconst d_bo_beside_86 ic_m1 ?_
                  refine Ex_ireturn d_bo_beside_87 rfl ?_
                  refine ⟨?_, rfl⟩; unfold bsd bsI; rw [show dBi 0 = -1 from rfl, show dBj 0 = 0 from rfl, if_neg (show ¬ (0 ≤ ((k / 8 : Nat) : Int) + (-1) ∧ ((k / 8 : Nat) : Int) + (-1) < fR F f ∧ 0 ≤ ((k % 8 : Nat) : Int) + (0) ∧ ((k % 8 : Nat) : Int) + (0) < fC F f) by omega)]; rfl
                · refine Ex_iload_n d_bo_beside_76 rfl ?_
                  refine Ex_bipush d_bo_beside_77 bp_8 ?_
                  refine Ex_imulZ (((k / 8 : Nat) : Int) + (-1)) ((8)) d_bo_beside_79 rfl (by decide) ?_
                  refine Ex_iload d_bo_beside_80 rfl ?_
                  refine Ex_iaddZ ((((k / 8 : Nat) : Int) + (-1)) * ((8))) (((k % 8 : Nat) : Int) + (0)) d_bo_beside_82 rfl rfl ?_
                  refine Ex_goto 87 d_bo_beside_83 rfl ?_
                  refine Ex_ireturn d_bo_beside_87 rfl ?_
                  refine ⟨?_, rfl⟩; unfold bsd bsI; rw [show dBi 0 = -1 from rfl, show dBj 0 = 0 from rfl, if_pos (show 0 ≤ ((k / 8 : Nat) : Int) + (-1) ∧ ((k / 8 : Nat) : Int) + (-1) < fR F f ∧ 0 ≤ ((k % 8 : Nat) : Int) + (0) ∧ ((k % 8 : Nat) : Int) + (0) < fC F f by omega)]
        · exact absurd hc39 (by decide)
      · exact absurd hc30 (by decide)
  · exact absurd hc6 (by decide)
theorem bo_beside_1 {S : mj_S} {h : mj_H} (hs : HT h) {F : SF} {n : Nat} (hFO : FO n F) {f : Nat} (hf : f < F.1) (hB : BrC F f h) {k : Nat} (hk : k < 64) : Cl S bo_beside [.ref 7, .int (nI (k)), .int (1)] h (Pu (.int (J (bsd F f k 1))) h) := by
  show Ex S bo_beside 0 [some (.ref 7), some (.int (nI (k))), some (.int (1)), none, none] [] h _
  have hsh := (hFO.2.2 f hf).1
  refine Ex_iload_n d_bo_beside_0 rfl ?_
  refine Ex_bipush d_bo_beside_1 bp_8 ?_
  refine Ex_idivN (k) (8) d_bo_beside_3 rfl rfl (by omega) (by omega) ?_
  refine Ex_iload_n d_bo_beside_4 rfl ?_
  refine Ex_iconst d_bo_beside_5 ic_2 ?_
  refine Ex_icmp_neN (1) (2) 13 d_bo_beside_6 rfl rfl rfl (by omega) (by omega) (fun hc6 => ?_) (fun hc6 => ?_)
  · refine Ex_iload_n d_bo_beside_13 rfl ?_
    refine Ex_if_neN (1) 21 d_bo_beside_14 rfl rfl (by omega) (fun hc14 => ?_) (fun hc14 => ?_)
    · refine Ex_iconst d_bo_beside_21 ic_0 ?_
      refine Ex_iaddN (k / 8) (0) d_bo_beside_22 rfl rfl ?_
      rw [show ((nI ((k / 8) + 0)) : Int32) = (J (((k / 8 : Nat) : Int) + (0))) from (by first | rfl | (rw [nIJ]; rfl))]
      refine Ex_istore_n [some (.ref 7), some (.int (nI (k))), some (.int (1)), some (.int (J (((k / 8 : Nat) : Int) + (0)))), none] d_bo_beside_23 (Nat.le_of_ble_eq_true rfl) rfl ?_
      refine Ex_iload_n d_bo_beside_24 rfl ?_
      refine Ex_bipush d_bo_beside_25 bp_8 ?_
      refine Ex_iremN (k) (8) d_bo_beside_27 rfl rfl (by omega) (by omega) ?_
      refine Ex_iload_n d_bo_beside_28 rfl ?_
      refine Ex_iconst d_bo_beside_29 ic_1 ?_
      refine Ex_icmp_neN (1) (1) 37 d_bo_beside_30 rfl rfl rfl (by omega) (by omega) (fun hc30 => ?_) (fun hc30 => ?_)
      · exact absurd hc30 (by decide)
      · refine Ex_iconst d_bo_beside_33 ic_1 ?_
        refine Ex_goto 47 d_bo_beside_34 rfl ?_
        refine Ex_iaddN (k % 8) (1) d_bo_beside_47 rfl rfl ?_
        rw [show ((nI ((k % 8) + 1)) : Int32) = (J (((k % 8 : Nat) : Int) + (1))) from (by first | rfl | (rw [nIJ]; rfl))]
        refine Ex_istore [some (.ref 7), some (.int (nI (k))), some (.int (1)), some (.int (J (((k / 8 : Nat) : Int) + (0)))), some (.int (J (((k % 8 : Nat) : Int) + (1))))] d_bo_beside_48 (Nat.le_of_ble_eq_true rfl) rfl ?_
        refine Ex_iload_n d_bo_beside_50 rfl ?_
        refine Ex_if_ltZ (((k / 8 : Nat) : Int) + (0)) 86 d_bo_beside_51 rfl rfl (by omega) (fun hc51 => ?_) (fun hc51 => ?_)
        · refine Ex_iconst d_bo_beside_86 ic_m1 ?_
          refine Ex_ireturn d_bo_beside_87 rfl ?_
          refine ⟨?_, rfl⟩; unfold bsd bsI; rw [show dBi 1 = 0 from rfl, show dBj 1 = 1 from rfl, if_neg (show ¬ (0 ≤ ((k / 8 : Nat) : Int) + (0) ∧ ((k / 8 : Nat) : Int) + (0) < fR F f ∧ 0 ≤ ((k % 8 : Nat) : Int) + (1) ∧ ((k % 8 : Nat) : Int) + (1) < fC F f) by omega)]; rfl
        · refine Ex_iload_n d_bo_beside_54 rfl ?_
          refine Ex_aload_n d_bo_beside_55 rfl ?_
          refine Ex_getIE (y := (nI (fR F f))) d_bo_beside_56 pf_bo_53 rfl (t_7 hs) hB.1 ?_
          refine Ex_icmp_geZ (((k / 8 : Nat) : Int) + (0)) (((fR F f : Nat) : Int)) 86 d_bo_beside_59 rfl rfl (nIJ _) (by omega) (by omega) (fun hc59 => ?_) (fun hc59 => ?_)
          · refine Ex_iconst d_bo_beside_86 ic_m1 ?_
            refine Ex_ireturn d_bo_beside_87 rfl ?_
            refine ⟨?_, rfl⟩; unfold bsd bsI; rw [show dBi 1 = 0 from rfl, show dBj 1 = 1 from rfl, if_neg (show ¬ (0 ≤ ((k / 8 : Nat) : Int) + (0) ∧ ((k / 8 : Nat) : Int) + (0) < fR F f ∧ 0 ≤ ((k % 8 : Nat) : Int) + (1) ∧ ((k % 8 : Nat) : Int) + (1) < fC F f) by omega)]; rfl
          · refine Ex_iload d_bo_beside_62 rfl ?_
            refine Ex_if_ltZ (((k % 8 : Nat) : Int) + (1)) 86 d_bo_beside_64 rfl rfl (by omega) (fun hc64 => ?_) (fun hc64 => ?_)
            · refine Ex_iconst d_bo_beside_86 ic_m1 ?_
              refine Ex_ireturn d_bo_beside_87 rfl ?_
              refine ⟨?_, rfl⟩; unfold bsd bsI; rw [show dBi 1 = 0 from rfl, show dBj 1 = 1 from rfl, if_neg (show ¬ (0 ≤ ((k / 8 : Nat) : Int) + (0) ∧ ((k / 8 : Nat) : Int) + (0) < fR F f ∧ 0 ≤ ((k % 8 : Nat) : Int) + (1) ∧ ((k % 8 : Nat) : Int) + (1) < fC F f) by omega)]; rfl
            · refine Ex_iload d_bo_beside_67 rfl ?_
              refine Ex_aload_n d_bo_beside_69 rfl ?_
              refine Ex_getIE (y := (nI (fC F f))) d_bo_beside_70 pf_bo_57 rfl (t_7 hs) hB.2 ?_
              refine Ex_icmp_geZ (((k % 8 : Nat) : Int) + (1)) (((fC F f : Nat) : Int)) 86 d_bo_beside_73 rfl rfl (nIJ _) (by omega) (by omega) (fun hc73 => ?_) (fun hc73 => ?_)
              · refine Ex_iconst d_bo_beside_86 ic_m1 ?_
                refine Ex_ireturn d_bo_beside_87 rfl ?_
                refine ⟨?_, rfl⟩; unfold bsd bsI; rw [show dBi 1 = 0 from rfl, show dBj 1 = 1 from rfl, if_neg (show ¬ (0 ≤ ((k / 8 : Nat) : Int) + (0) ∧ ((k / 8 : Nat) : Int) + (0) < fR F f ∧ 0 ≤ ((k % 8 : Nat) : Int) + (1) ∧ ((k % 8 : Nat) : Int) + (1) < fC F f) by omega)]; rfl
              · refine Ex_iload_n d_bo_beside_76 rfl ?_
                refine Ex_bipush d_bo_beside_77 bp_8 ?_
                refine Ex_imulZ (((k / 8 : Nat) : Int) + (0)) ((8)) d_bo_beside_79 rfl (by decide) ?_
                refine Ex_iload d_bo_beside_80 rfl ?_
                refine Ex_iaddZ ((((k / 8 : Nat) : Int) + (0)) * ((8))) (((k % 8 : Nat) : Int) + (1)) d_bo_beside_82 rfl rfl ?_
                refine Ex_goto 87 d_bo_beside_83 rfl ?_
                refine Ex_ireturn d_bo_beside_87 rfl ?_
                refine ⟨?_, rfl⟩; unfold bsd bsI; rw [show dBi 1 = 0 from rfl, show dBj 1 = 1 from rfl, if_pos (show 0 ≤ ((k / 8 : Nat) : Int) + (0) ∧ ((k / 8 : Nat) : Int) + (0) < fR F f ∧ 0 ≤ ((k % 8 : Nat) : Int) + (1) ∧ ((k % 8 : Nat) : Int) + (1) < fC F f by omega)]
    · exact absurd hc14 (by decide)
  · exact absurd hc6 (by decide)
theorem bo_beside_2 {S : mj_S} {h : mj_H} (hs : HT h) {F : SF} {n : Nat} (hFO : FO n F) {f : Nat} (hf : f < F.1) (hB : BrC F f h) {k : Nat} (hk : k < 64) : Cl S bo_beside [.ref 7, .int (nI (k)), .int (2)] h (Pu (.int (J (bsd F f k 2))) h) := by
  show Ex S bo_beside 0 [some (.ref 7), some (.int (nI (k))), some (.int (2)), none, none] [] h _
  have hsh := (hFO.2.2 f hf).1
  refine Ex_iload_n d_bo_beside_0 rfl ?_
  refine Ex_bipush d_bo_beside_1 bp_8 ?_
  refine Ex_idivN (k) (8) d_bo_beside_3 rfl rfl (by omega) (by omega) ?_
  refine Ex_iload_n d_bo_beside_4 rfl ?_
  refine Ex_iconst d_bo_beside_5 ic_2 ?_
  refine Ex_icmp_neN (2) (2) 13 d_bo_beside_6 rfl rfl rfl (by omega) (by omega) (fun hc6 => ?_) (fun hc6 => ?_)
  · exact absurd hc6 (by decide)
  · refine Ex_iconst d_bo_beside_9 ic_1 ?_
    refine Ex_goto 22 d_bo_beside_10 rfl ?_
    refine Ex_iaddN (k / 8) (1) d_bo_beside_22 rfl rfl ?_
    rw [show ((nI ((k / 8) + 1)) : Int32) = (J (((k / 8 : Nat) : Int) + (1))) from (by first | rfl | (rw [nIJ]; rfl))]
    refine Ex_istore_n [some (.ref 7), some (.int (nI (k))), some (.int (2)), some (.int (J (((k / 8 : Nat) : Int) + (1)))), none] d_bo_beside_23 (Nat.le_of_ble_eq_true rfl) rfl ?_
    refine Ex_iload_n d_bo_beside_24 rfl ?_
    refine Ex_bipush d_bo_beside_25 bp_8 ?_
    refine Ex_iremN (k) (8) d_bo_beside_27 rfl rfl (by omega) (by omega) ?_
    refine Ex_iload_n d_bo_beside_28 rfl ?_
    refine Ex_iconst d_bo_beside_29 ic_1 ?_
    refine Ex_icmp_neN (2) (1) 37 d_bo_beside_30 rfl rfl rfl (by omega) (by omega) (fun hc30 => ?_) (fun hc30 => ?_)
    · refine Ex_iload_n d_bo_beside_37 rfl ?_
      refine Ex_iconst d_bo_beside_38 ic_3 ?_
      refine Ex_icmp_neN (2) (3) 46 d_bo_beside_39 rfl rfl rfl (by omega) (by omega) (fun hc39 => ?_) (fun hc39 => ?_)
      · refine Ex_iconst d_bo_beside_46 ic_0 ?_
        refine Ex_iaddN (k % 8) (0) d_bo_beside_47 rfl rfl ?_
        rw [show ((nI ((k % 8) + 0)) : Int32) = (J (((k % 8 : Nat) : Int) + (0))) from (by first | rfl | (rw [nIJ]; rfl))]
        refine Ex_istore [some (.ref 7), some (.int (nI (k))), some (.int (2)), some (.int (J (((k / 8 : Nat) : Int) + (1)))), some (.int (J (((k % 8 : Nat) : Int) + (0))))] d_bo_beside_48 (Nat.le_of_ble_eq_true rfl) rfl ?_
        refine Ex_iload_n d_bo_beside_50 rfl ?_
        refine Ex_if_ltZ (((k / 8 : Nat) : Int) + (1)) 86 d_bo_beside_51 rfl rfl (by omega) (fun hc51 => ?_) (fun hc51 => ?_)
        · refine Ex_iconst d_bo_beside_86 ic_m1 ?_
          refine Ex_ireturn d_bo_beside_87 rfl ?_
          refine ⟨?_, rfl⟩; unfold bsd bsI; rw [show dBi 2 = 1 from rfl, show dBj 2 = 0 from rfl, if_neg (show ¬ (0 ≤ ((k / 8 : Nat) : Int) + (1) ∧ ((k / 8 : Nat) : Int) + (1) < fR F f ∧ 0 ≤ ((k % 8 : Nat) : Int) + (0) ∧ ((k % 8 : Nat) : Int) + (0) < fC F f) by omega)]; rfl
        · refine Ex_iload_n d_bo_beside_54 rfl ?_
          refine Ex_aload_n d_bo_beside_55 rfl ?_
          refine Ex_getIE (y := (nI (fR F f))) d_bo_beside_56 pf_bo_53 rfl (t_7 hs) hB.1 ?_
          refine Ex_icmp_geZ (((k / 8 : Nat) : Int) + (1)) (((fR F f : Nat) : Int)) 86 d_bo_beside_59 rfl rfl (nIJ _) (by omega) (by omega) (fun hc59 => ?_) (fun hc59 => ?_)
          · refine Ex_iconst d_bo_beside_86 ic_m1 ?_
            refine Ex_ireturn d_bo_beside_87 rfl ?_
            refine ⟨?_, rfl⟩; unfold bsd bsI; rw [show dBi 2 = 1 from rfl, show dBj 2 = 0 from rfl, if_neg (show ¬ (0 ≤ ((k / 8 : Nat) : Int) + (1) ∧ ((k / 8 : Nat) : Int) + (1) < fR F f ∧ 0 ≤ ((k % 8 : Nat) : Int) + (0) ∧ ((k % 8 : Nat) : Int) + (0) < fC F f) by omega)]; rfl
          · refine Ex_iload d_bo_beside_62 rfl ?_
            refine Ex_if_ltZ (((k % 8 : Nat) : Int) + (0)) 86 d_bo_beside_64 rfl rfl (by omega) (fun hc64 => ?_) (fun hc64 => ?_)
            · refine Ex_iconst d_bo_beside_86 ic_m1 ?_
              refine Ex_ireturn d_bo_beside_87 rfl ?_
              refine ⟨?_, rfl⟩; unfold bsd bsI; rw [show dBi 2 = 1 from rfl, show dBj 2 = 0 from rfl, if_neg (show ¬ (0 ≤ ((k / 8 : Nat) : Int) + (1) ∧ ((k / 8 : Nat) : Int) + (1) < fR F f ∧ 0 ≤ ((k % 8 : Nat) : Int) + (0) ∧ ((k % 8 : Nat) : Int) + (0) < fC F f) by omega)]; rfl
            · refine Ex_iload d_bo_beside_67 rfl ?_
              refine Ex_aload_n d_bo_beside_69 rfl ?_
              refine Ex_getIE (y := (nI (fC F f))) d_bo_beside_70 pf_bo_57 rfl (t_7 hs) hB.2 ?_
              refine Ex_icmp_geZ (((k % 8 : Nat) : Int) + (0)) (((fC F f : Nat) : Int)) 86 d_bo_beside_73 rfl rfl (nIJ _) (by omega) (by omega) (fun hc73 => ?_) (fun hc73 => ?_)
              · refine Ex_iconst d_bo_beside_86 ic_m1 ?_
                refine Ex_ireturn d_bo_beside_87 rfl ?_
                refine ⟨?_, rfl⟩; unfold bsd bsI; rw [show dBi 2 = 1 from rfl, show dBj 2 = 0 from rfl, if_neg (show ¬ (0 ≤ ((k / 8 : Nat) : Int) + (1) ∧ ((k / 8 : Nat) : Int) + (1) < fR F f ∧ 0 ≤ ((k % 8 : Nat) : Int) + (0) ∧ ((k % 8 : Nat) : Int) + (0) < fC F f) by omega)]; rfl
              · refine Ex_iload_n d_bo_beside_76 rfl ?_
                refine Ex_bipush d_bo_beside_77 bp_8 ?_
                refine Ex_imulZ (((k / 8 : Nat) : Int) + (1)) ((8)) d_bo_beside_79 rfl (by decide) ?_
                refine Ex_iload d_bo_beside_80 rfl ?_
                refine Ex_iaddZ ((((k / 8 : Nat) : Int) + (1)) * ((8))) (((k % 8 : Nat) : Int) + (0)) d_bo_beside_82 rfl rfl ?_
                refine Ex_goto 87 d_bo_beside_83 rfl ?_
                refine Ex_ireturn d_bo_beside_87 rfl ?_
                refine ⟨?_, rfl⟩; unfold bsd bsI; rw [show dBi 2 = 1 from rfl, show dBj 2 = 0 from rfl, if_pos (show 0 ≤ ((k / 8 : Nat) : Int) + (1) ∧ ((k / 8 : Nat) : Int) + (1) < fR F f ∧ 0 ≤ ((k % 8 : Nat) : Int) + (0) ∧ ((k % 8 : Nat) : Int) + (0) < fC F f by omega)]
      · exact absurd hc39 (by decide)
    · exact absurd hc30 (by decide)
theorem bo_beside_3 {S : mj_S} {h : mj_H} (hs : HT h) {F : SF} {n : Nat} (hFO : FO n F) {f : Nat} (hf : f < F.1) (hB : BrC F f h) {k : Nat} (hk : k < 64) : Cl S bo_beside [.ref 7, .int (nI (k)), .int (3)] h (Pu (.int (J (bsd F f k 3))) h) := by
  show Ex S bo_beside 0 [some (.ref 7), some (.int (nI (k))), some (.int (3)), none, none] [] h _
  have hsh := (hFO.2.2 f hf).1
  refine Ex_iload_n d_bo_beside_0 rfl ?_
  refine Ex_bipush d_bo_beside_1 bp_8 ?_
  refine Ex_idivN (k) (8) d_bo_beside_3 rfl rfl (by omega) (by omega) ?_
  refine Ex_iload_n d_bo_beside_4 rfl ?_
  refine Ex_iconst d_bo_beside_5 ic_2 ?_
  refine Ex_icmp_neN (3) (2) 13 d_bo_beside_6 rfl rfl rfl (by omega) (by omega) (fun hc6 => ?_) (fun hc6 => ?_)
  · refine Ex_iload_n d_bo_beside_13 rfl ?_
    refine Ex_if_neN (3) 21 d_bo_beside_14 rfl rfl (by omega) (fun hc14 => ?_) (fun hc14 => ?_)
    · refine Ex_iconst d_bo_beside_21 ic_0 ?_
      refine Ex_iaddN (k / 8) (0) d_bo_beside_22 rfl rfl ?_
      rw [show ((nI ((k / 8) + 0)) : Int32) = (J (((k / 8 : Nat) : Int) + (0))) from (by first | rfl | (rw [nIJ]; rfl))]
      refine Ex_istore_n [some (.ref 7), some (.int (nI (k))), some (.int (3)), some (.int (J (((k / 8 : Nat) : Int) + (0)))), none] d_bo_beside_23 (Nat.le_of_ble_eq_true rfl) rfl ?_
      refine Ex_iload_n d_bo_beside_24 rfl ?_
      refine Ex_bipush d_bo_beside_25 bp_8 ?_
      refine Ex_iremN (k) (8) d_bo_beside_27 rfl rfl (by omega) (by omega) ?_
      refine Ex_iload_n d_bo_beside_28 rfl ?_
      refine Ex_iconst d_bo_beside_29 ic_1 ?_
      refine Ex_icmp_neN (3) (1) 37 d_bo_beside_30 rfl rfl rfl (by omega) (by omega) (fun hc30 => ?_) (fun hc30 => ?_)
      · refine Ex_iload_n d_bo_beside_37 rfl ?_
        refine Ex_iconst d_bo_beside_38 ic_3 ?_
        refine Ex_icmp_neN (3) (3) 46 d_bo_beside_39 rfl rfl rfl (by omega) (by omega) (fun hc39 => ?_) (fun hc39 => ?_)
        · exact absurd hc39 (by decide)
        · refine Ex_iconst d_bo_beside_42 ic_m1 ?_
          refine Ex_goto 47 d_bo_beside_43 rfl ?_
          refine Ex_iaddZ (((k % 8 : Nat) : Int)) ((-1)) d_bo_beside_47 (nIJ _) (by decide) ?_
          rw [show ((J ((((k % 8 : Nat) : Int)) + ((-1)))) : Int32) = (J (((k % 8 : Nat) : Int) + (-1))) from (by first | rfl | (rw [nIJ]; rfl))]
          refine Ex_istore [some (.ref 7), some (.int (nI (k))), some (.int (3)), some (.int (J (((k / 8 : Nat) : Int) + (0)))), some (.int (J (((k % 8 : Nat) : Int) + (-1))))] d_bo_beside_48 (Nat.le_of_ble_eq_true rfl) rfl ?_
          refine Ex_iload_n d_bo_beside_50 rfl ?_
          refine Ex_if_ltZ (((k / 8 : Nat) : Int) + (0)) 86 d_bo_beside_51 rfl rfl (by omega) (fun hc51 => ?_) (fun hc51 => ?_)
          · refine Ex_iconst d_bo_beside_86 ic_m1 ?_
            refine Ex_ireturn d_bo_beside_87 rfl ?_
            refine ⟨?_, rfl⟩; unfold bsd bsI; rw [show dBi 3 = 0 from rfl, show dBj 3 = -1 from rfl, if_neg (show ¬ (0 ≤ ((k / 8 : Nat) : Int) + (0) ∧ ((k / 8 : Nat) : Int) + (0) < fR F f ∧ 0 ≤ ((k % 8 : Nat) : Int) + (-1) ∧ ((k % 8 : Nat) : Int) + (-1) < fC F f) by omega)]; rfl
          · refine Ex_iload_n d_bo_beside_54 rfl ?_
            refine Ex_aload_n d_bo_beside_55 rfl ?_
            refine Ex_getIE (y := (nI (fR F f))) d_bo_beside_56 pf_bo_53 rfl (t_7 hs) hB.1 ?_
            refine Ex_icmp_geZ (((k / 8 : Nat) : Int) + (0)) (((fR F f : Nat) : Int)) 86 d_bo_beside_59 rfl rfl (nIJ _) (by omega) (by omega) (fun hc59 => ?_) (fun hc59 => ?_)
            · refine Ex_iconst d_bo_beside_86 ic_m1 ?_
              refine Ex_ireturn d_bo_beside_87 rfl ?_
              refine ⟨?_, rfl⟩; unfold bsd bsI; rw [show dBi 3 = 0 from rfl, show dBj 3 = -1 from rfl, if_neg (show ¬ (0 ≤ ((k / 8 : Nat) : Int) + (0) ∧ ((k / 8 : Nat) : Int) + (0) < fR F f ∧ 0 ≤ ((k % 8 : Nat) : Int) + (-1) ∧ ((k % 8 : Nat) : Int) + (-1) < fC F f) by omega)]; rfl
            · refine Ex_iload d_bo_beside_62 rfl ?_
              refine Ex_if_ltZ (((k % 8 : Nat) : Int) + (-1)) 86 d_bo_beside_64 rfl rfl (by omega) (fun hc64 => ?_) (fun hc64 => ?_)
              · refine Ex_iconst d_bo_beside_86 ic_m1 ?_
                refine Ex_ireturn d_bo_beside_87 rfl ?_
                refine ⟨?_, rfl⟩; unfold bsd bsI; rw [show dBi 3 = 0 from rfl, show dBj 3 = -1 from rfl, if_neg (show ¬ (0 ≤ ((k / 8 : Nat) : Int) + (0) ∧ ((k / 8 : Nat) : Int) + (0) < fR F f ∧ 0 ≤ ((k % 8 : Nat) : Int) + (-1) ∧ ((k % 8 : Nat) : Int) + (-1) < fC F f) by omega)]; rfl
              · refine Ex_iload d_bo_beside_67 rfl ?_
                refine Ex_aload_n d_bo_beside_69 rfl ?_
                refine Ex_getIE (y := (nI (fC F f))) d_bo_beside_70 pf_bo_57 rfl (t_7 hs) hB.2 ?_
                refine Ex_icmp_geZ (((k % 8 : Nat) : Int) + (-1)) (((fC F f : Nat) : Int)) 86 d_bo_beside_73 rfl rfl (nIJ _) (by omega) (by omega) (fun hc73 => ?_) (fun hc73 => ?_)
                · refine Ex_iconst d_bo_beside_86 ic_m1 ?_
                  refine Ex_ireturn d_bo_beside_87 rfl ?_
                  refine ⟨?_, rfl⟩; unfold bsd bsI; rw [show dBi 3 = 0 from rfl, show dBj 3 = -1 from rfl, if_neg (show ¬ (0 ≤ ((k / 8 : Nat) : Int) + (0) ∧ ((k / 8 : Nat) : Int) + (0) < fR F f ∧ 0 ≤ ((k % 8 : Nat) : Int) + (-1) ∧ ((k % 8 : Nat) : Int) + (-1) < fC F f) by omega)]; rfl
                · refine Ex_iload_n d_bo_beside_76 rfl ?_
                  refine Ex_bipush d_bo_beside_77 bp_8 ?_
                  refine Ex_imulZ (((k / 8 : Nat) : Int) + (0)) ((8)) d_bo_beside_79 rfl (by decide) ?_
                  refine Ex_iload d_bo_beside_80 rfl ?_
                  refine Ex_iaddZ ((((k / 8 : Nat) : Int) + (0)) * ((8))) (((k % 8 : Nat) : Int) + (-1)) d_bo_beside_82 rfl rfl ?_
                  refine Ex_goto 87 d_bo_beside_83 rfl ?_
                  refine Ex_ireturn d_bo_beside_87 rfl ?_
                  refine ⟨?_, rfl⟩; unfold bsd bsI; rw [show dBi 3 = 0 from rfl, show dBj 3 = -1 from rfl, if_pos (show 0 ≤ ((k / 8 : Nat) : Int) + (0) ∧ ((k / 8 : Nat) : Int) + (0) < fR F f ∧ 0 ≤ ((k % 8 : Nat) : Int) + (-1) ∧ ((k % 8 : Nat) : Int) + (-1) < fC F f by omega)]
      · exact absurd hc30 (by decide)
    · exact absurd hc14 (by decide)
  · exact absurd hc6 (by decide)
theorem bo_has_s {S : mj_S} {h : mj_H} (hs : HT h) {F : SF} {n : Nat} (hFO : FO n F) {f : Nat} (hf : f < F.1) (hB : BrC F f h) {k : Nat} (hk : k < 64) : Cl S bo_has [.ref 7, .int (nI (k))] h (Pu (.int (bI (decide (inF F f k)))) h) := by
  show Ex S bo_has 0 [some (.ref 7), some (.int (nI (k)))] [] h _
  have hsh := (hFO.2.2 f hf).1
  refine Ex_iload_n d_bo_has_0 rfl ?_
  refine Ex_if_ltN (k) 30 d_bo_has_1 rfl rfl (by omega) (fun hc1 => ?_) (fun hc1 => ?_)
  · exfalso; omega
  · refine Ex_iload_n d_bo_has_4 rfl ?_
    refine Ex_bipush d_bo_has_5 bp_8 ?_
    refine Ex_idivN (k) (8) d_bo_has_7 rfl rfl (by omega) (by omega) ?_
    refine Ex_aload_n d_bo_has_8 rfl ?_
    refine Ex_getIE (y := (nI (fR F f))) d_bo_has_9 pf_bo_53 rfl (t_7 hs) hB.1 ?_
    refine Ex_icmp_geN (k / 8) (fR F f) 30 d_bo_has_12 rfl rfl rfl (by omega) (by omega) (fun hc12 => ?_) (fun hc12 => ?_)
    · refine Ex_iconst d_bo_has_30 ic_0 ?_
      refine Ex_zreturn d_bo_has_31 rfl (by decide) ?_
      exact ⟨by first | (rw [decide_eq_true (show inF F f k by unfold inF; omega)]; rfl) | (rw [decide_eq_false (show ¬ inF F f k by unfold inF; omega)]; rfl), rfl⟩
    · refine Ex_iload_n d_bo_has_15 rfl ?_
      refine Ex_bipush d_bo_has_16 bp_8 ?_
      refine Ex_iremN (k) (8) d_bo_has_18 rfl rfl (by omega) (by omega) ?_
      refine Ex_aload_n d_bo_has_19 rfl ?_
      refine Ex_getIE (y := (nI (fC F f))) d_bo_has_20 pf_bo_57 rfl (t_7 hs) hB.2 ?_
      refine Ex_icmp_geN (k % 8) (fC F f) 30 d_bo_has_23 rfl rfl rfl (by omega) (by omega) (fun hc23 => ?_) (fun hc23 => ?_)
      · refine Ex_iconst d_bo_has_30 ic_0 ?_
        refine Ex_zreturn d_bo_has_31 rfl (by decide) ?_
        exact ⟨by first | (rw [decide_eq_true (show inF F f k by unfold inF; omega)]; rfl) | (rw [decide_eq_false (show ¬ inF F f k by unfold inF; omega)]; rfl), rfl⟩
      · refine Ex_iconst d_bo_has_26 ic_1 ?_
        refine Ex_goto 31 d_bo_has_27 rfl ?_
        refine Ex_zreturn d_bo_has_31 rfl (by decide) ?_
        exact ⟨by first | (rw [decide_eq_true (show inF F f k by unfold inF; omega)]; rfl) | (rw [decide_eq_false (show ¬ inF F f k by unfold inF; omega)]; rfl), rfl⟩
