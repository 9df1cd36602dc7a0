/-! The reference: undo, at, shares, row. -/
def undoP (P : SP) : SP := match pHi P with
  | [] => P
  | q :: l => uHi (uPat P q.1 q.2) l
def undoS (P : SP) : Int := (pHi P).length - 1
theorem PO_undo {n : Nat} {P : SP} (h : PO n P) : PO n (undoP P) := by
  unfold undoP
  split
  · exact h
  · rename_i q l e
    have h1 := h.2.2.2.2.1
    have h2 := h.2.2.2.2.2
    rw [e] at h1 h2
    simp only [List.length_cons] at h1
    exact PO_uHi (PO_uPat h (h2 q (List.mem_cons_self ..)).2) (by omega) (fun x hx => h2 x (List.mem_cons_of_mem _ hx))
theorem rm_undo_L {S : mj_S} {Q : Option Value → mj_H → Prop} {h : mj_H} (hs : HT h) {a x l : Nat} (ha : a < 16) (hx : x < 40) (hl : l ≤ 60) (h48 : mI h 48 a = nI l) (h17 : mI h 38 17 = nI x)
    (kx : Ex S rm_undo 103 [some (.ref 38), some (.int (nI (a))), some (.int (nI (l)))] [] (wA h 47 (cpF (mI h 47) (mI h 51) (60 * a) (60 * x) (l))) Q) : ∀ d k : Nat, k + d = l → Ex S rm_undo 62 [some (.ref 38), some (.int (nI (a))), some (.int (nI (k)))] [] (wA h 47 (cpF (mI h 47) (mI h 51) (60 * a) (60 * x) (k))) Q := by
  intro d
  induction d with
  | zero =>
    intro k hk
    obtain rfl : k = l := by omega
    refine Ex_iload_n d_rm_undo_62 rfl ?_
    refine Ex_aload_n d_rm_undo_63 rfl ?_
    refine Ex_getR d_rm_undo_64 pf_rm_40 rfl (t_38 hs) (r_38_11 hs) ?_
    refine Ex_iload_n d_rm_undo_67 rfl ?_
    refine Ex_ialoadN (a := a) d_rm_undo_68 (t_48 hs) rfl (by omega) (by decide) h48 ?_
    refine Ex_icmp_geN (k) (k) 103 d_rm_undo_69 rfl rfl rfl (by omega) (by omega) (fun hc69 => ?_) (fun hc69 => ?_)
    · exact kx
    · exfalso; omega
  | succ d ih =>
    intro k hk
    refine Ex_iload_n d_rm_undo_62 rfl ?_
    refine Ex_aload_n d_rm_undo_63 rfl ?_
    refine Ex_getR d_rm_undo_64 pf_rm_40 rfl (t_38 hs) (r_38_11 hs) ?_
    refine Ex_iload_n d_rm_undo_67 rfl ?_
    refine Ex_ialoadN (a := a) d_rm_undo_68 (t_48 hs) rfl (by omega) (by decide) h48 ?_
    refine Ex_icmp_geN (k) (l) 103 d_rm_undo_69 rfl rfl rfl (by omega) (by omega) (fun hc69 => ?_) (fun hc69 => ?_)
    · exfalso; omega
    · refine Ex_aload_n d_rm_undo_72 rfl ?_
      refine Ex_getR d_rm_undo_73 pf_rm_37 rfl (t_38 hs) (r_38_10 hs) ?_
      refine Ex_bipush d_rm_undo_76 bp_60 ?_
      refine Ex_iload_n d_rm_undo_78 rfl ?_
      refine Ex_imulN (60) (a) d_rm_undo_79 rfl rfl ?_
      refine Ex_iload_n d_rm_undo_80 rfl ?_
      refine Ex_iaddN (60 * a) (k) d_rm_undo_81 rfl rfl ?_
      refine Ex_aload_n d_rm_undo_82 rfl ?_
      refine Ex_getR d_rm_undo_83 pf_rm_49 rfl (t_38 hs) (r_38_15 hs) ?_
      refine Ex_bipush d_rm_undo_86 bp_60 ?_
      refine Ex_aload_n d_rm_undo_88 rfl ?_
      refine Ex_getIE d_rm_undo_89 pf_rm_181 rfl (t_38 hs) h17 ?_
      refine Ex_imulN (60) (x) d_rm_undo_92 rfl rfl ?_
      refine Ex_iload_n d_rm_undo_93 rfl ?_
      refine Ex_iaddN (60 * x) (k) d_rm_undo_94 rfl rfl ?_
      refine Ex_ialoadN (a := (60 * x) + k) d_rm_undo_95 (t_51 hs) rfl (by omega) (by decide) rfl ?_
      refine Ex_iastoreN (a := (60 * a) + k) d_rm_undo_96 (t_47 hs) rfl (by omega) (by decide) ?_
      refine Ex_iincN (k) 1 [some (.ref 38), some (.int (nI (a))), some (.int (nI (k + 1)))] d_rm_undo_97 rfl rfl rfl rfl ?_
      refine Ex_goto 62 d_rm_undo_100 rfl ?_
      rw [wI_wA]
      exact (cpF_s (mI h 47) (mI h 51) (60 * a) (60 * x) k) ▸ ih (k + 1) (by omega)
theorem rm_undo_s {S : mj_S} {h : mj_H} (hs : HT h) {P : SP} (hP : PM P h) {n : Nat} (hQ : PO n P) : Cl S rm_undo [.ref 38] h (fun r h' => r = some (.int (J (undoS P))) ∧ PM (undoP P) h' ∧ Fr WPM h h') := by
  have hnp := hQ.2.2.1
  have hh40 := hQ.2.2.2.2.1
  obtain ⟨hl0, ua, hu, hr⟩ := hP.2.2
  have hua := hr.1
  cases hh : pHi P with
  | nil =>
    rw [hh] at hl0
    show Ex S rm_undo 0 [some (.ref 38), none, none] [] h _
    refine Ex_aload_n d_rm_undo_0 rfl ?_
    refine Ex_getIE d_rm_undo_1 pf_rm_184 rfl (t_38 hs) hl0 ?_
    refine Ex_if_neN (0) 9 d_rm_undo_4 rfl rfl (by omega) (fun hc4 => ?_) (fun hc4 => ?_)
    · exfalso; omega
    · refine Ex_iconst d_rm_undo_7 ic_m1 ?_
      refine Ex_ireturn d_rm_undo_8 rfl ?_
      exact ⟨by unfold undoS; rw [hh]; rfl, by unfold undoP; rw [hh]; exact hP, Fr.rf⟩
  | cons q l =>
    rw [hh] at hl0 hr hh40
    have hq := hQ.2.2.2.2.2 q (by rw [hh]; exact List.mem_cons_self ..)
    obtain ⟨⟨f1, f2, f3⟩, hr2⟩ := ring_pop hr hh40
    obtain ⟨x, hx⟩ : ∃ x, (ua + 39) % 40 = x := ⟨_, rfl⟩
    have hx40 : x < 40 := by omega
    rw [hx] at f1 f2 f3 hr2
    have hq60 := hq.2.1
    simp only [List.length_cons] at hl0 hh40
    show Ex S rm_undo 0 [some (.ref 38), none, none] [] h _
    refine Ex_aload_n d_rm_undo_0 rfl ?_
    refine Ex_getIE d_rm_undo_1 pf_rm_184 rfl (t_38 hs) hl0 ?_
    refine Ex_if_neN (l.length + 1) 9 d_rm_undo_4 rfl rfl (by omega) (fun hc4 => ?_) (fun hc4 => ?_)
    · refine Ex_aload_n d_rm_undo_9 rfl ?_
      refine Ex_dup rfl d_rm_undo_10 ?_
      refine Ex_getIE d_rm_undo_11 pf_rm_184 rfl (t_38 hs) hl0 ?_
      refine Ex_iconst d_rm_undo_14 ic_1 ?_
      refine Ex_isubN (l.length + 1) (1) d_rm_undo_15 rfl rfl (by omega) ?_
      refine Ex_putI d_rm_undo_16 pf_rm_184 (Or.inl rfl) (t_38 hs) (Or.inl rfl) ?_
      refine Ex_aload_n d_rm_undo_19 rfl ?_
      refine Ex_aload_n d_rm_undo_20 rfl ?_
      refine Ex_getIE d_rm_undo_21 pf_rm_181 rfl (t_38 hs) hu ?_
      refine Ex_bipush d_rm_undo_24 bp_40 ?_
      refine Ex_iaddN (ua) (40) d_rm_undo_26 rfl rfl ?_
      refine Ex_iconst d_rm_undo_27 ic_1 ?_
      refine Ex_isubN (ua + 40) (1) d_rm_undo_28 rfl rfl (by omega) ?_
      refine Ex_bipush d_rm_undo_29 bp_40 ?_
      refine Ex_iremN ((ua + 40) - 1) (40) d_rm_undo_31 rfl rfl (by omega) (by omega) ?_
      rw [show ((nI (((ua + 40) - 1) % 40)) : Int32) = (nI (x)) from congrArg nI (by omega)]
      refine Ex_putI d_rm_undo_32 pf_rm_181 (Or.inl rfl) (t_38 hs) (Or.inl rfl) ?_
      refine Ex_aload_n d_rm_undo_35 rfl ?_
      refine Ex_getR d_rm_undo_36 pf_rm_43 rfl (t_38 hs) (r_38_13 hs) ?_
      refine Ex_aload_n d_rm_undo_39 rfl ?_
      refine Ex_getIE d_rm_undo_40 pf_rm_181 rfl (t_38 hs) rfl ?_
      refine Ex_ialoadN (a := x) d_rm_undo_43 (t_49 hs) rfl (by omega) (by decide) f1 ?_
      refine Ex_istore_n [some (.ref 38), some (.int (nI (q.1))), none] d_rm_undo_44 (Nat.le_of_ble_eq_true rfl) rfl ?_
      refine Ex_aload_n d_rm_undo_45 rfl ?_
      refine Ex_getR d_rm_undo_46 pf_rm_40 rfl (t_38 hs) (r_38_11 hs) ?_
      refine Ex_iload_n d_rm_undo_49 rfl ?_
      refine Ex_aload_n d_rm_undo_50 rfl ?_
      refine Ex_getR d_rm_undo_51 pf_rm_46 rfl (t_38 hs) (r_38_14 hs) ?_
      refine Ex_aload_n d_rm_undo_54 rfl ?_
      refine Ex_getIE d_rm_undo_55 pf_rm_181 rfl (t_38 hs) rfl ?_
      refine Ex_ialoadN (a := x) d_rm_undo_58 (t_50 hs) rfl (by omega) (by decide) f2 ?_
      refine Ex_iastoreN (a := q.1) d_rm_undo_59 (t_48 hs) rfl (by (have := hq.1; omega)) (by decide) ?_
      refine Ex_iconst d_rm_undo_60 ic_0 ?_
      refine Ex_istore_n [some (.ref 38), some (.int (nI (q.1))), some (.int (0))] d_rm_undo_61 (Nat.le_of_ble_eq_true rfl) rfl ?_
      refine Ex_heq (h' := (wA (wI (wI (wI h 38 16 (nI (l.length + 1 - 1))) 38 17 (nI x)) 48 q.1 (nI q.2.length)) 47 (cpF (mI (wI (wI (wI h 38 16 (nI (l.length + 1 - 1))) 38 17 (nI x)) 48 q.1 (nI q.2.length)) 47) (mI (wI (wI (wI h 38 16 (nI (l.length + 1 - 1))) 38 17 (nI x)) 48 q.1 (nI q.2.length)) 51) (60 * q.1) (60 * x) 0))) (by rw [cpF_0, wA_self]) ?_
      refine rm_undo_L (h := (wI (wI (wI h 38 16 (nI (l.length + 1 - 1))) 38 17 (nI x)) 48 q.1 (nI q.2.length))) hs (a := q.1) (x := x) (l := q.2.length) (by have := hq.1; omega) hx40 hq60 (by simp [mI_wI]) rfl ?_ q.2.length 0 (by omega)
      refine Ex_aload_n d_rm_undo_103 rfl ?_
      refine Ex_getIE d_rm_undo_104 pf_rm_184 rfl (t_38 hs) rfl ?_
      refine Ex_ireturn d_rm_undo_107 rfl ?_
      have hU : undoP P = uHi (uPat P q.1 q.2) l := by unfold undoP; rw [hh]
      refine ⟨?_, ?_, ?_⟩
      · unfold undoS
        rw [hh, nIJ]
        simp only [List.length_cons]
        exact congrArg (fun z => some (Value.int (J z))) (by omega)
      · rw [hU]
        refine ⟨hP.1, PaM_upd (p := q.1) (l' := q.2) hP.2.1 hQ ?_ hq.1 ?_ ?_ ?_ ?_, ?_, x, rfl, hr2⟩
        · rfl
        · simp [mI_wI, mI_wA]
        · intro p hp; simp [mI_wI, mI_wA, hp]
        · intro i hi
          show cpF (mI h 47) (mI h 51) (60 * q.1) (60 * x) q.2.length (60 * q.1 + i) = _
          unfold cpF
          rw [if_pos (by omega), show 60 * x + (60 * q.1 + i - 60 * q.1) = 60 * x + i by omega]
          exact f3 i hi
        · intro p i hp hi
          show cpF (mI h 47) (mI h 51) (60 * q.1) (60 * x) q.2.length (60 * p + i) = _
          unfold cpF
          rw [if_neg (by omega)]
        · show nI (l.length + 1 - 1) = nI l.length
          exact congrArg nI (by omega)
      · refine Fr.sA (Fr.sI (Fr.sI (Fr.sI Fr.rf ?_) ?_) ?_) (fun k hk => ?_)
        · unfold WPM; omega
        · unfold WPM; omega
        · unfold WPM; omega
        · exact absurd (show WPM 47 k by unfold WPM; omega) hk
    · exfalso; omega
def atV (c : Option Tl) (w : Int) : Int := match c with
  | none => if w = 0 then -2 else 0
  | some none => if w = 0 then -1 else 0
  | some (some (k, m, s)) => if w = 0 then (k : Int) else if w = 1 then (m : Int) else sg s
def atS (P : SP) (p i j w : Int) : Int := if 0 ≤ p ∧ p < pNp P ∧ 0 ≤ w ∧ w ≤ 2 then atV (cAt P p.toNat i j) w else -1
theorem rm_at_s {S : mj_S} {h : mj_H} (hs : HT h) {K : SK} (hK : KM K h) (hO : KO K) {P : SP} (hP : PM P h) (hQ : PO K.1 P) {p i j w : Int} (hp : -2147483648 ≤ p ∧ p < 2147483648) (hi : -2147483648 ≤ i ∧ i < 2147483648) (hj : -2147483648 ≤ j ∧ j < 2147483648) (hw : -2147483648 ≤ w ∧ w < 2147483648) : Cl S rm_at [.ref 38, .int (J (p)), .int (J (i)), .int (J (j)), .int (J (w))] h (Pu (.int (J (atS P p i j w))) h) := by
  show Ex S rm_at 0 [some (.ref 38), some (.int (J (p))), some (.int (J (i))), some (.int (J (j))), some (.int (J (w))), none, none] [] h _
  refine Ex_aload_n d_rm_at_0 rfl ?_
  refine Ex_iload_n d_rm_at_1 rfl ?_
  refine Ex_pV1 d_rm_at_2 pk_rm_at_187 (t_38 hs) (rm_isPattern_s hs hP.2.1 hQ.2.2.1 hp) ?_
  refine Ex_if_eqB (decide (0 ≤ p ∧ p < pNp P)) 19 d_rm_at_5 rfl rfl (fun hc5 => ?_) (fun hc5 => ?_)
  · rw [decide_eq_false_iff_not] at hc5
    refine Ex_iconst d_rm_at_19 ic_m1 ?_
    refine Ex_ireturn d_rm_at_20 rfl ?_
    exact Pu_m1 (by unfold atS; rw [if_neg (by omega)])
  · rw [decide_eq_true_eq] at hc5
    obtain ⟨a, rfl⟩ : ∃ a : Nat, p = (a : Int) := ⟨p.toNat, by omega⟩
    simp only [← nIJ]
    have hlen := (hQ.2.2.2.1 a (by omega)).1
    have hnp := hQ.2.2.1
    have hmd : pMd P ≤ 6000 := hQ.1
    refine Ex_iload d_rm_at_8 rfl ?_
    refine Ex_if_ltZ (w) 19 d_rm_at_10 rfl rfl (by omega) (fun hc10 => ?_) (fun hc10 => ?_)
    · refine Ex_iconst d_rm_at_19 ic_m1 ?_
      refine Ex_ireturn d_rm_at_20 rfl ?_
      exact Pu_m1 (by unfold atS; rw [if_neg (by omega)])
    · refine Ex_iload d_rm_at_13 rfl ?_
      refine Ex_iconst d_rm_at_15 ic_2 ?_
      refine Ex_icmp_leZ (w) ((2)) 21 d_rm_at_16 rfl rfl (by decide) (by omega) (by omega) (fun hc16 => ?_) (fun hc16 => ?_)
      · refine Ex_aload_n d_rm_at_21 rfl ?_
        refine Ex_iload_n d_rm_at_22 rfl ?_
        refine Ex_iload_n d_rm_at_23 rfl ?_
        refine Ex_i2lZ (i) d_rm_at_24 rfl (by omega) ?_
        refine Ex_iload_n d_rm_at_25 rfl ?_
        refine Ex_i2lZ (j) d_rm_at_26 rfl (by omega) ?_
        refine Ex_pV3 d_rm_at_27 pk_rm_at_204 (t_38 hs) (rm_has_s hs hP hQ (show a < pNp P by omega) (by omega) (by omega)) ?_
        refine Ex_istore [some (.ref 38), some (.int (nI (a))), some (.int (J (i))), some (.int (J (j))), some (.int (J (w))), some (.int (bI ((cAt P a i j).isSome))), none] d_rm_at_30 (Nat.le_of_ble_eq_true rfl) rfl ?_
        refine Ex_iload d_rm_at_32 rfl ?_
        refine Ex_if_eqB ((cAt P a i j).isSome) 47 d_rm_at_34 rfl rfl (fun hc34 => ?_) (fun hc34 => ?_)
        · have hc0 : cAt P a i j = none := by
            cases z : cAt P a i j with
            | none => rfl
            | some _ => rw [z] at hc34; cases hc34
          rw [hc34]
          refine Ex_iconst d_rm_at_47 ic_0 ?_
          refine Ex_istore [some (.ref 38), some (.int (nI (a))), some (.int (J (i))), some (.int (J (j))), some (.int (J (w))), some (.int (bI (false))), some (.int (0))] d_rm_at_48 (Nat.le_of_ble_eq_true rfl) rfl ?_
          show Ex S rm_at 50 [some (.ref 38), some (.int (nI (a))), some (.int (J (i))), some (.int (J (j))), some (.int (J (w))), some (.int (bI (false))), some (.int (0))] [] h _
          refine Ex_iload d_rm_at_50 rfl ?_
          refine Ex_if_neZ (w) 80 d_rm_at_52 rfl rfl (by omega) (fun hc52 => ?_) (fun hc52 => ?_)
          · refine Ex_iload d_rm_at_80 rfl ?_
            refine Ex_if_neN (0) 89 d_rm_at_82 rfl rfl (by omega) (fun hc82 => ?_) (fun hc82 => ?_)
            · exact absurd hc82 (by decide)
            · refine Ex_iconst d_rm_at_85 ic_0 ?_
              refine Ex_goto 108 d_rm_at_86 rfl ?_
              refine Ex_ireturn d_rm_at_108 rfl ?_
              exact Pu_zc (by rw [show atS P (a : Int) i j w = (0) from (by unfold atS; rw [if_pos (by omega), Int.toNat_natCast, hc0]; unfold atV; dsimp only; first | rw [if_pos (by omega)] | (rw [if_neg (by omega)]; done) | (rw [if_neg (by omega), if_pos (by omega)]) | (rw [if_neg (by omega), if_neg (by omega)]))]; decide)
          · refine Ex_iload d_rm_at_55 rfl ?_
            refine Ex_if_neB (false) 65 d_rm_at_57 rfl rfl (fun hc57 => ?_) (fun hc57 => ?_)
            · cases hc57
            · refine Ex_bipush d_rm_at_60 bp_m2 ?_
              refine Ex_goto 79 d_rm_at_62 rfl ?_
              refine Ex_ireturn d_rm_at_79 rfl ?_
              exact Pu_zc (by rw [show atS P (a : Int) i j w = (-2) from (by unfold atS; rw [if_pos (by omega), Int.toNat_natCast, hc0]; unfold atV; dsimp only; first | rw [if_pos (by omega)] | (rw [if_neg (by omega)]; done) | (rw [if_neg (by omega), if_pos (by omega)]) | (rw [if_neg (by omega), if_neg (by omega)]))]; decide)
        · obtain ⟨c0, hc0⟩ := Option.isSome_iff_exists.mp hc34
          have hok0 := cAt_ok hQ (show a < pNp P by omega) (i := i) (j := j)
          rw [hc0] at hok0
          rw [hc34]
          refine Ex_aload_n d_rm_at_37 rfl ?_
          refine Ex_iload_n d_rm_at_38 rfl ?_
          refine Ex_iload_n d_rm_at_39 rfl ?_
          refine Ex_iload_n d_rm_at_40 rfl ?_
          refine Ex_pV3 d_rm_at_41 pk_rm_at_212 (t_38 hs) (rm_cellAt_s hs hP hQ (show a < pNp P by omega) hc0) ?_
          refine Ex_goto 48 d_rm_at_44 rfl ?_
          refine Ex_istore [some (.ref 38), some (.int (nI (a))), some (.int (J (i))), some (.int (J (j))), some (.int (J (w))), some (.int (bI (true))), some (.int (eM c0))] d_rm_at_48 (Nat.le_of_ble_eq_true rfl) rfl ?_
          rcases c0 with _ | ⟨k, m, t⟩
          · show Ex S rm_at 50 [some (.ref 38), some (.int (nI (a))), some (.int (J (i))), some (.int (J (j))), some (.int (J (w))), some (.int (bI (true))), some (.int (0))] [] h _
            refine Ex_iload d_rm_at_50 rfl ?_
            refine Ex_if_neZ (w) 80 d_rm_at_52 rfl rfl (by omega) (fun hc52 => ?_) (fun hc52 => ?_)
            · refine Ex_iload d_rm_at_80 rfl ?_
              refine Ex_if_neN (0) 89 d_rm_at_82 rfl rfl (by omega) (fun hc82 => ?_) (fun hc82 => ?_)
              · exact absurd hc82 (by decide)
              · refine Ex_iconst d_rm_at_85 ic_0 ?_
                refine Ex_goto 108 d_rm_at_86 rfl ?_
                refine Ex_ireturn d_rm_at_108 rfl ?_
                exact Pu_zc (by rw [show atS P (a : Int) i j w = (0) from (by unfold atS; rw [if_pos (by omega), Int.toNat_natCast, hc0]; unfold atV; dsimp only; first | rw [if_pos (by omega)] | (rw [if_neg (by omega)]; done) | (rw [if_neg (by omega), if_pos (by omega)]) | (rw [if_neg (by omega), if_neg (by omega)]))]; decide)
            · refine Ex_iload d_rm_at_55 rfl ?_
              refine Ex_if_neB (true) 65 d_rm_at_57 rfl rfl (fun hc57 => ?_) (fun hc57 => ?_)
              · refine Ex_iload d_rm_at_65 rfl ?_
                refine Ex_if_neN (0) 74 d_rm_at_67 rfl rfl (by omega) (fun hc67 => ?_) (fun hc67 => ?_)
                · exact absurd hc67 (by decide)
                · refine Ex_iconst d_rm_at_70 ic_m1 ?_
                  refine Ex_goto 79 d_rm_at_71 rfl ?_
                  refine Ex_ireturn d_rm_at_79 rfl ?_
                  exact Pu_zc (by rw [show atS P (a : Int) i j w = (-1) from (by unfold atS; rw [if_pos (by omega), Int.toNat_natCast, hc0]; unfold atV; dsimp only; first | rw [if_pos (by omega)] | (rw [if_neg (by omega)]; done) | (rw [if_neg (by omega), if_pos (by omega)]) | (rw [if_neg (by omega), if_neg (by omega)]))]; decide)
              · cases hc57
          · have hk40 : k < 40 := Nat.lt_of_lt_of_le hok0.1 hO.1
            have hm8 := hok0.2.1
            have ht6 := hok0.2.2
            show Ex S rm_at 50 [some (.ref 38), some (.int (nI (a))), some (.int (J (i))), some (.int (J (j))), some (.int (J (w))), some (.int (bI (true))), some (.int (nI (t * 65536 + (8 * k + m + 1))))] [] h _
            refine Ex_iload d_rm_at_50 rfl ?_
            refine Ex_if_neZ (w) 80 d_rm_at_52 rfl rfl (by omega) (fun hc52 => ?_) (fun hc52 => ?_)
            · refine Ex_iload d_rm_at_80 rfl ?_
              refine Ex_if_ne 89 d_rm_at_82 rfl (fun hc82 => ?_) (fun hc82 => ?_)
              · refine Ex_iload d_rm_at_89 rfl ?_
                refine Ex_iconst d_rm_at_91 ic_1 ?_
                refine Ex_icmp_neZ (w) ((1)) 103 d_rm_at_92 rfl rfl (by decide) (by omega) (by omega) (fun hc92 => ?_) (fun hc92 => ?_)
                · refine Ex_iload d_rm_at_103 rfl ?_
                  refine Ex_pS1 d_rm_at_105 pk_rm_at_163 (rm_shadeOf_s hk40 hok0.2.1 hok0.2.2) ?_
                  refine Ex_ireturn d_rm_at_108 rfl ?_
                  exact Pu_z (Eq.symm (by unfold atS; rw [if_pos (by omega), Int.toNat_natCast, hc0]; unfold atV; dsimp only; first | rw [if_pos (by omega)] | (rw [if_neg (by omega)]; done) | (rw [if_neg (by omega), if_pos (by omega)]) | (rw [if_neg (by omega), if_neg (by omega)])))
                · refine Ex_iload d_rm_at_95 rfl ?_
                  refine Ex_pS1 d_rm_at_97 pk_rm_at_160 (rm_moveOf_s hk40 hok0.2.1 hok0.2.2) ?_
                  refine Ex_goto 108 d_rm_at_100 rfl ?_
                  refine Ex_ireturn d_rm_at_108 rfl ?_
                  exact Pu_nz (by unfold atS; rw [if_pos (by omega), Int.toNat_natCast, hc0]; unfold atV; dsimp only; first | rw [if_pos (by omega)] | (rw [if_neg (by omega)]; done) | (rw [if_neg (by omega), if_pos (by omega)]) | (rw [if_neg (by omega), if_neg (by omega)]))
              · exact absurd (nI_inj32 (b := 0) (by omega) (by omega) hc82) (by omega)
            · refine Ex_iload d_rm_at_55 rfl ?_
              refine Ex_if_neB (true) 65 d_rm_at_57 rfl rfl (fun hc57 => ?_) (fun hc57 => ?_)
              · refine Ex_iload d_rm_at_65 rfl ?_
                refine Ex_if_ne 74 d_rm_at_67 rfl (fun hc67 => ?_) (fun hc67 => ?_)
                · refine Ex_iload d_rm_at_74 rfl ?_
                  refine Ex_pS1 d_rm_at_76 pk_rm_at_156 (rm_kindOf_s hk40 hok0.2.1 hok0.2.2) ?_
                  refine Ex_ireturn d_rm_at_79 rfl ?_
                  exact Pu_nz (by unfold atS; rw [if_pos (by omega), Int.toNat_natCast, hc0]; unfold atV; dsimp only; first | rw [if_pos (by omega)] | (rw [if_neg (by omega)]; done) | (rw [if_neg (by omega), if_pos (by omega)]) | (rw [if_neg (by omega), if_neg (by omega)]))
                · exact absurd (nI_inj32 (b := 0) (by omega) (by omega) hc67) (by omega)
              · cases hc57
      · refine Ex_iconst d_rm_at_19 ic_m1 ?_
        refine Ex_ireturn d_rm_at_20 rfl ?_
        exact Pu_m1 (by unfold atS; rw [if_neg (by omega)])
