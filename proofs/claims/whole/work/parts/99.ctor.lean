/-! THE LAW: both constructors. -/
def IN (k : Nat) (L : List (Nat × Nat × Nat)) (h : mj_H) : Prop := h.1 = statT.take k ∧ (∀ a j, mI h a j = 0) ∧ (∀ a j, mL h a j = 0) ∧ (∀ q ∈ L, q.1 < k ∧ mR h q.1 q.2.1 = some q.2.2) ∧ k ≤ 74
theorem statT_l : statT.length = 74 := by decide
theorem IN_n {k : Nat} {L : List (Nat × Nat × Nat)} {h : mj_H} (hI : IN k L h) : mN h = k := by
  unfold mN
  rw [hI.1, List.length_take, statT_l]
  have := hI.2.2.2.2
  omega
theorem IN_T {k : Nat} {L : List (Nat × Nat × Nat)} {h : mj_H} (hI : IN k L h) {a : Nat} {t : Nat × Nat} (ha : a < k) (ht : statT[a]? = some t) : mT h a = some t := by
  unfold mT
  rw [hI.1, List.getElem?_take_of_lt ha]
  exact ht
theorem IN_new {k : Nat} {L : List (Nat × Nat × Nat)} {h : mj_H} (hI : IN k L h) {t n : Nat} (ht : statT[k]? = some (t, n)) : IN (k + 1) L (mNew h t n) := by
  have hk : k < 74 := by
    have := (List.getElem?_eq_some_iff.mp ht).1
    rw [statT_l] at this
    exact this
  have hl : h.1.length = k := IN_n hI
  refine ⟨?_, fun a j => ?_, fun a j => ?_, fun q hq => ⟨Nat.lt_succ_of_lt (hI.2.2.2.1 q hq).1, ?_⟩, hk⟩
  · show h.1 ++ [(t, n)] = _
    rw [hI.1, List.take_succ, ht]
    rfl
  · show va_up h.2.1 h.1.length (fun _ => 0) a j = 0
    unfold va_up
    split
    · rfl
    · exact hI.2.1 a j
  · show va_up h.2.2.1 h.1.length (fun _ => 0) a j = 0
    unfold va_up
    split
    · rfl
    · exact hI.2.2.1 a j
  · show va_up h.2.2.2 h.1.length (fun _ => none) q.1 q.2.1 = _
    unfold va_up
    have z := hI.2.2.2.1 q hq
    rw [if_neg (by omega)]
    exact z.2
theorem IN_put {k : Nat} {L : List (Nat × Nat × Nat)} {h : mj_H} (hI : IN k L h) {a j v : Nat} (ha : a < k) (hn : ∀ q ∈ L, ¬ (q.1 = a ∧ q.2.1 = j)) : IN k ((a, j, v) :: L) (wR h a j (some v)) := by
  refine ⟨hI.1, hI.2.1, hI.2.2.1, fun q hq => ?_, hI.2.2.2.2⟩
  rcases List.mem_cons.mp hq with e | e
  · rw [e]
    refine ⟨ha, ?_⟩
    show va_up h.2.2.2 a (va_up (h.2.2.2 a) j (some v)) a j = _
    unfold va_up
    rw [if_pos rfl, if_pos rfl]
  · obtain ⟨z1, z2⟩ := hI.2.2.2.1 q e
    refine ⟨z1, ?_⟩
    show va_up h.2.2.2 a (va_up (h.2.2.2 a) j (some v)) q.1 q.2.1 = _
    unfold va_up
    by_cases e1 : q.1 = a
    · rw [if_pos e1, if_neg (fun e2 => hn q e ⟨e1, e2⟩), ← e1]
      exact z2
    · rw [if_neg e1]
      exact z2
theorem Ex_anewarrayN {S : mj_S} {μ : mj_Y} {pc idx : Nat} {ls : mj_L} {st : List Value} {h : mj_H} {Q : Option Value → mj_H → Prop} {t a : Nat} {C : String} {i : Int32} (hd : decode μ.2.1 pc = .ok (.anewarray idx, 3)) (hty : (t = 4 ∧ C = RX7) ∨ (t = 5 ∧ C = RX9) ∨ (t = 6 ∧ C = RX4)) (hw : Cond.classLink μ.1.cls idx C ∈ lw_g) (hi : i = nI a) (hb : a ≤ 1000000) (kk : Ex S μ (pc + 3) ls (.ref (mN h) :: st) (mNew h t a) Q) : Ex S μ pc ls (.int i :: st) h Q := by
  subst hi
  exact Ex_anewarray hd hty hw (nI_nonneg (by omega)) (nI_nat (by omega)) hb kk
theorem Ex_anewarrayAN {S : mj_S} {μ : mj_Y} {pc idx : Nat} {ls : mj_L} {st : List Value} {h : mj_H} {Q : Option Value → mj_H → Prop} {a : Nat} {i : Int32} (hd : decode μ.2.1 pc = .ok (.anewarray idx, 3)) (hw : Cond.classLink μ.1.cls idx "[I" ∈ lw_g) (hi : i = nI a) (hb : a ≤ 1000000) (kk : Ex S μ (pc + 3) ls (.ref (mN h) :: st) (mNew h 3 a) Q) : Ex S μ pc ls (.int i :: st) h Q := by
  subst hi
  exact Ex_anewarrayA hd hw (nI_nonneg (by omega)) (nI_nat (by omega)) hb kk
theorem ki_init_i {S : mj_S} {h : mj_H} (hI : IN 2 [] h) : Cl S ki_init [.ref 1] h (fun r h' => r = none ∧ IN 7 [(1, 5, 6), (1, 4, 5), (1, 3, 4), (1, 2, 3), (1, 1, 2)] h') := by
  show Ex S ki_init 0 [some (.ref 1)] [] h _
  refine Ex_aload_n d_ki_init_0 rfl ?_
  refine Ex_objInit d_ki_init_1 pm_ki_3 pw_oi pw_oc rfl ⟨Nat.le_of_ble_eq_true rfl, Nat.le_of_ble_eq_true rfl⟩ ?_
  refine Ex_aload_n d_ki_init_4 rfl ?_
  refine Ex_bipush d_ki_init_5 bp_40 ?_
  refine Ex_newarrayN (a := 40) d_ki_init_7 (Or.inl ⟨rfl, rfl⟩) pw_ai rfl (by decide) ?_
  rw [IN_n hI]
  have hI1 := IN_new hI (show statT[2]? = some (0, 40) from rfl)
  generalize mNew h (0) 40 = h1 at hI1 ⊢
  refine Ex_putR (x := (some (2))) d_ki_init_9 pf_ki_11 (Or.inr ⟨rfl, rfl, _, rfl⟩) rfl (IN_T hI1 (by decide) rfl) rfl ?_
  have hI2 := IN_put (a := 1) (j := 1) (v := 2) hI1 (by decide) (by decide)
  generalize wR h1 1 1 (some 2) = h2 at hI2 ⊢
  refine Ex_aload_n d_ki_init_12 rfl ?_
  refine Ex_bipush d_ki_init_13 bp_40 ?_
  refine Ex_newarrayN (a := 40) d_ki_init_15 (Or.inl ⟨rfl, rfl⟩) pw_ai rfl (by decide) ?_
  rw [IN_n hI2]
  have hI3 := IN_new hI2 (show statT[3]? = some (0, 40) from rfl)
  generalize mNew h2 (0) 40 = h3 at hI3 ⊢
  refine Ex_putR (x := (some (3))) d_ki_init_17 pf_ki_15 (Or.inr ⟨rfl, rfl, _, rfl⟩) rfl (IN_T hI3 (by decide) rfl) rfl ?_
  have hI4 := IN_put (a := 1) (j := 2) (v := 3) hI3 (by decide) (by decide)
  generalize wR h3 1 2 (some 3) = h4 at hI4 ⊢
  refine Ex_aload_n d_ki_init_20 rfl ?_
  refine Ex_bipush d_ki_init_21 bp_40 ?_
  refine Ex_newarrayN (a := 40) d_ki_init_23 (Or.inr (Or.inr ⟨rfl, rfl⟩)) pw_ab rfl (by decide) ?_
  rw [IN_n hI4]
  have hI5 := IN_new hI4 (show statT[4]? = some (2, 40) from rfl)
  generalize mNew h4 (2) 40 = h5 at hI5 ⊢
  refine Ex_putR (x := (some (4))) d_ki_init_25 pf_ki_18 (Or.inr ⟨rfl, rfl, _, rfl⟩) rfl (IN_T hI5 (by decide) rfl) rfl ?_
  have hI6 := IN_put (a := 1) (j := 3) (v := 4) hI5 (by decide) (by decide)
  generalize wR h5 1 3 (some 4) = h6 at hI6 ⊢
  refine Ex_aload_n d_ki_init_28 rfl ?_
  refine Ex_bipush d_ki_init_29 bp_40 ?_
  refine Ex_newarrayN (a := 40) d_ki_init_31 (Or.inl ⟨rfl, rfl⟩) pw_ai rfl (by decide) ?_
  rw [IN_n hI6]
  have hI7 := IN_new hI6 (show statT[5]? = some (0, 40) from rfl)
  generalize mNew h6 (0) 40 = h7 at hI7 ⊢
  refine Ex_putR (x := (some (5))) d_ki_init_33 pf_ki_22 (Or.inr ⟨rfl, rfl, _, rfl⟩) rfl (IN_T hI7 (by decide) rfl) rfl ?_
  have hI8 := IN_put (a := 1) (j := 4) (v := 5) hI7 (by decide) (by decide)
  generalize wR h7 1 4 (some 5) = h8 at hI8 ⊢
  refine Ex_aload_n d_ki_init_36 rfl ?_
  refine Ex_bipush d_ki_init_37 bp_40 ?_
  refine Ex_newarrayN (a := 40) d_ki_init_39 (Or.inr (Or.inl ⟨rfl, rfl⟩)) pw_al rfl (by decide) ?_
  rw [IN_n hI8]
  have hI9 := IN_new hI8 (show statT[6]? = some (1, 40) from rfl)
  generalize mNew h8 (1) 40 = h9 at hI9 ⊢
  refine Ex_putR (x := (some (6))) d_ki_init_41 pf_ki_25 (Or.inr ⟨rfl, rfl, _, rfl⟩) rfl (IN_T hI9 (by decide) rfl) rfl ?_
  have hI10 := IN_put (a := 1) (j := 5) (v := 6) hI9 (by decide) (by decide)
  generalize wR h9 1 5 (some 6) = h10 at hI10 ⊢
  refine Ex_return d_ki_init_44 rfl ?_
  exact ⟨rfl, hI10⟩
theorem ch_init_i {S : mj_S} {h : mj_H} (hI : IN 9 [(1, 5, 6), (1, 4, 5), (1, 3, 4), (1, 2, 3), (1, 1, 2)] h) : Cl S ch_init [.ref 8, .ref 1] h (fun r h' => r = none ∧ IN 11 [(8, 0, 1), (8, 3, 10), (8, 2, 9), (1, 5, 6), (1, 4, 5), (1, 3, 4), (1, 2, 3), (1, 1, 2)] h') := by
  show Ex S ch_init 0 [some (.ref 8), some (.ref 1)] [] h _
  refine Ex_aload_n d_ch_init_0 rfl ?_
  refine Ex_objInit d_ch_init_1 pm_ch_7 pw_oi pw_oc rfl ⟨Nat.le_of_ble_eq_true rfl, Nat.le_of_ble_eq_true rfl⟩ ?_
  refine Ex_aload_n d_ch_init_4 rfl ?_
  refine Ex_sipush d_ch_init_5 sp_320 ?_
  refine Ex_newarrayN (a := 320) d_ch_init_8 (Or.inl ⟨rfl, rfl⟩) pw_ai rfl (by decide) ?_
  rw [IN_n hI]
  have hI1 := IN_new hI (show statT[9]? = some (0, 320) from rfl)
  generalize mNew h (0) 320 = h1 at hI1 ⊢
  refine Ex_putR (x := (some (9))) d_ch_init_10 pf_ch_13 (Or.inr ⟨rfl, rfl, _, rfl⟩) rfl (IN_T hI1 (by decide) rfl) rfl ?_
  have hI2 := IN_put (a := 8) (j := 2) (v := 9) hI1 (by decide) (by decide)
  generalize wR h1 8 2 (some 9) = h2 at hI2 ⊢
  refine Ex_aload_n d_ch_init_13 rfl ?_
  refine Ex_sipush d_ch_init_14 sp_340 ?_
  refine Ex_newarrayN (a := 340) d_ch_init_17 (Or.inr (Or.inl ⟨rfl, rfl⟩)) pw_al rfl (by decide) ?_
  rw [IN_n hI2]
  have hI3 := IN_new hI2 (show statT[10]? = some (1, 340) from rfl)
  generalize mNew h2 (1) 340 = h3 at hI3 ⊢
  refine Ex_putR (x := (some (10))) d_ch_init_19 pf_ch_17 (Or.inr ⟨rfl, rfl, _, rfl⟩) rfl (IN_T hI3 (by decide) rfl) rfl ?_
  have hI4 := IN_put (a := 8) (j := 3) (v := 10) hI3 (by decide) (by decide)
  generalize wR h3 8 3 (some 10) = h4 at hI4 ⊢
  refine Ex_aload_n d_ch_init_22 rfl ?_
  refine Ex_aload_n d_ch_init_23 rfl ?_
  refine Ex_putR (x := (some (1))) d_ch_init_24 pf_ch_21 (Or.inr ⟨rfl, rfl, _, rfl⟩) rfl (IN_T hI4 (by decide) rfl) rfl ?_
  have hI5 := IN_put (a := 8) (j := 0) (v := 1) hI4 (by decide) (by decide)
  generalize wR h4 8 0 (some 1) = h5 at hI5 ⊢
  refine Ex_return d_ch_init_27 rfl ?_
  exact ⟨rfl, hI5⟩
theorem bo_init_i {S : mj_S} {h : mj_H} (hI : IN 11 [(8, 0, 1), (8, 3, 10), (8, 2, 9), (1, 5, 6), (1, 4, 5), (1, 3, 4), (1, 2, 3), (1, 1, 2)] h) : Cl S bo_init [.ref 7, .ref 8] h (fun r h' => r = none ∧ IN 18 [(7, 0, 8), (7, 10, 17), (7, 9, 16), (7, 8, 15), (7, 7, 14), (7, 6, 13), (7, 5, 12), (7, 4, 11), (8, 0, 1), (8, 3, 10), (8, 2, 9), (1, 5, 6), (1, 4, 5), (1, 3, 4), (1, 2, 3), (1, 1, 2)] h') := by
  show Ex S bo_init 0 [some (.ref 7), some (.ref 8)] [] h _
  refine Ex_aload_n d_bo_init_0 rfl ?_
  refine Ex_objInit d_bo_init_1 pm_bo_3 pw_oi pw_oc rfl ⟨Nat.le_of_ble_eq_true rfl, Nat.le_of_ble_eq_true rfl⟩ ?_
  refine Ex_aload_n d_bo_init_4 rfl ?_
  refine Ex_bipush d_bo_init_5 bp_64 ?_
  refine Ex_newarrayN (a := 64) d_bo_init_7 (Or.inl ⟨rfl, rfl⟩) pw_ai rfl (by decide) ?_
  rw [IN_n hI]
  have hI1 := IN_new hI (show statT[11]? = some (0, 64) from rfl)
  generalize mNew h (0) 64 = h1 at hI1 ⊢
  refine Ex_putR (x := (some (11))) d_bo_init_9 pf_bo_11 (Or.inr ⟨rfl, rfl, _, rfl⟩) rfl (IN_T hI1 (by decide) rfl) rfl ?_
  have hI2 := IN_put (a := 7) (j := 4) (v := 11) hI1 (by decide) (by decide)
  generalize wR h1 7 4 (some 11) = h2 at hI2 ⊢
  refine Ex_aload_n d_bo_init_12 rfl ?_
  refine Ex_bipush d_bo_init_13 bp_64 ?_
  refine Ex_newarrayN (a := 64) d_bo_init_15 (Or.inr (Or.inr ⟨rfl, rfl⟩)) pw_ab rfl (by decide) ?_
  rw [IN_n hI2]
  have hI3 := IN_new hI2 (show statT[12]? = some (2, 64) from rfl)
  generalize mNew h2 (2) 64 = h3 at hI3 ⊢
  refine Ex_putR (x := (some (12))) d_bo_init_17 pf_bo_17 (Or.inr ⟨rfl, rfl, _, rfl⟩) rfl (IN_T hI3 (by decide) rfl) rfl ?_
  have hI4 := IN_put (a := 7) (j := 5) (v := 12) hI3 (by decide) (by decide)
  generalize wR h3 7 5 (some 12) = h4 at hI4 ⊢
  refine Ex_aload_n d_bo_init_20 rfl ?_
  refine Ex_sipush d_bo_init_21 sp_256 ?_
  refine Ex_newarrayN (a := 256) d_bo_init_24 (Or.inl ⟨rfl, rfl⟩) pw_ai rfl (by decide) ?_
  rw [IN_n hI4]
  have hI5 := IN_new hI4 (show statT[13]? = some (0, 256) from rfl)
  generalize mNew h4 (0) 256 = h5 at hI5 ⊢
  refine Ex_putR (x := (some (13))) d_bo_init_26 pf_bo_21 (Or.inr ⟨rfl, rfl, _, rfl⟩) rfl (IN_T hI5 (by decide) rfl) rfl ?_
  have hI6 := IN_put (a := 7) (j := 6) (v := 13) hI5 (by decide) (by decide)
  generalize wR h5 7 6 (some 13) = h6 at hI6 ⊢
  refine Ex_aload_n d_bo_init_29 rfl ?_
  refine Ex_bipush d_bo_init_30 bp_64 ?_
  refine Ex_newarrayN (a := 64) d_bo_init_32 (Or.inl ⟨rfl, rfl⟩) pw_ai rfl (by decide) ?_
  rw [IN_n hI6]
  have hI7 := IN_new hI6 (show statT[14]? = some (0, 64) from rfl)
  generalize mNew h6 (0) 64 = h7 at hI7 ⊢
  refine Ex_putR (x := (some (14))) d_bo_init_34 pf_bo_24 (Or.inr ⟨rfl, rfl, _, rfl⟩) rfl (IN_T hI7 (by decide) rfl) rfl ?_
  have hI8 := IN_put (a := 7) (j := 7) (v := 14) hI7 (by decide) (by decide)
  generalize wR h7 7 7 (some 14) = h8 at hI8 ⊢
  refine Ex_aload_n d_bo_init_37 rfl ?_
  refine Ex_bipush d_bo_init_38 bp_40 ?_
  refine Ex_newarrayN (a := 40) d_bo_init_40 (Or.inl ⟨rfl, rfl⟩) pw_ai rfl (by decide) ?_
  rw [IN_n hI8]
  have hI9 := IN_new hI8 (show statT[15]? = some (0, 40) from rfl)
  generalize mNew h8 (0) 40 = h9 at hI9 ⊢
  refine Ex_putR (x := (some (15))) d_bo_init_42 pf_bo_29 (Or.inr ⟨rfl, rfl, _, rfl⟩) rfl (IN_T hI9 (by decide) rfl) rfl ?_
  have hI10 := IN_put (a := 7) (j := 8) (v := 15) hI9 (by decide) (by decide)
  generalize wR h9 7 8 (some 15) = h10 at hI10 ⊢
  refine Ex_aload_n d_bo_init_45 rfl ?_
  refine Ex_iconst d_bo_init_46 ic_5 ?_
  refine Ex_newarrayN (a := 5) d_bo_init_47 (Or.inr (Or.inl ⟨rfl, rfl⟩)) pw_al rfl (by decide) ?_
  rw [IN_n hI10]
  have hI11 := IN_new hI10 (show statT[16]? = some (1, 5) from rfl)
  generalize mNew h10 (1) 5 = h11 at hI11 ⊢
  refine Ex_putR (x := (some (16))) d_bo_init_49 pf_bo_34 (Or.inr ⟨rfl, rfl, _, rfl⟩) rfl (IN_T hI11 (by decide) rfl) rfl ?_
  have hI12 := IN_put (a := 7) (j := 9) (v := 16) hI11 (by decide) (by decide)
  generalize wR h11 7 9 (some 16) = h12 at hI12 ⊢
  refine Ex_aload_n d_bo_init_52 rfl ?_
  refine Ex_bipush d_bo_init_53 bp_64 ?_
  refine Ex_newarrayN (a := 64) d_bo_init_55 (Or.inl ⟨rfl, rfl⟩) pw_ai rfl (by decide) ?_
  rw [IN_n hI12]
  have hI13 := IN_new hI12 (show statT[17]? = some (0, 64) from rfl)
  generalize mNew h12 (0) 64 = h13 at hI13 ⊢
  refine Ex_putR (x := (some (17))) d_bo_init_57 pf_bo_38 (Or.inr ⟨rfl, rfl, _, rfl⟩) rfl (IN_T hI13 (by decide) rfl) rfl ?_
  have hI14 := IN_put (a := 7) (j := 10) (v := 17) hI13 (by decide) (by decide)
  generalize wR h13 7 10 (some 17) = h14 at hI14 ⊢
  refine Ex_aload_n d_bo_init_60 rfl ?_
  refine Ex_aload_n d_bo_init_61 rfl ?_
  refine Ex_putR (x := (some (8))) d_bo_init_62 pf_bo_41 (Or.inr ⟨rfl, rfl, _, rfl⟩) rfl (IN_T hI14 (by decide) rfl) rfl ?_
  have hI15 := IN_put (a := 7) (j := 0) (v := 8) hI14 (by decide) (by decide)
  generalize wR h14 7 0 (some 8) = h15 at hI15 ⊢
  refine Ex_return d_bo_init_65 rfl ?_
  exact ⟨rfl, hI15⟩
theorem se_init_i {S : mj_S} {h : mj_H} (hI : IN 19 [(0, 13, 7), (0, 0, 1), (7, 0, 8), (7, 10, 17), (7, 9, 16), (7, 8, 15), (7, 7, 14), (7, 6, 13), (7, 5, 12), (7, 4, 11), (8, 0, 1), (8, 3, 10), (8, 2, 9), (1, 5, 6), (1, 4, 5), (1, 3, 4), (1, 2, 3), (1, 1, 2)] h) : Cl S se_init [.ref 18, .ref 7, .ref 1] h (fun r h' => r = none ∧ IN 21 [(18, 1, 1), (18, 0, 7), (18, 3, 20), (18, 2, 19), (0, 13, 7), (0, 0, 1), (7, 0, 8), (7, 10, 17), (7, 9, 16), (7, 8, 15), (7, 7, 14), (7, 6, 13), (7, 5, 12), (7, 4, 11), (8, 0, 1), (8, 3, 10), (8, 2, 9), (1, 5, 6), (1, 4, 5), (1, 3, 4), (1, 2, 3), (1, 1, 2)] h') := by
  show Ex S se_init 0 [some (.ref 18), some (.ref 7), some (.ref 1)] [] h _
  refine Ex_aload_n d_se_init_0 rfl ?_
  refine Ex_objInit d_se_init_1 pm_se_3 pw_oi pw_oc rfl ⟨Nat.le_of_ble_eq_true rfl, Nat.le_of_ble_eq_true rfl⟩ ?_
  refine Ex_aload_n d_se_init_4 rfl ?_
  refine Ex_bipush d_se_init_5 bp_64 ?_
  refine Ex_newarrayN (a := 64) d_se_init_7 (Or.inl ⟨rfl, rfl⟩) pw_ai rfl (by decide) ?_
  rw [IN_n hI]
  have hI1 := IN_new hI (show statT[19]? = some (0, 64) from rfl)
  generalize mNew h (0) 64 = h1 at hI1 ⊢
  refine Ex_putR (x := (some (19))) d_se_init_9 pf_se_11 (Or.inr ⟨rfl, rfl, _, rfl⟩) rfl (IN_T hI1 (by decide) rfl) rfl ?_
  have hI2 := IN_put (a := 18) (j := 2) (v := 19) hI1 (by decide) (by decide)
  generalize wR h1 18 2 (some 19) = h2 at hI2 ⊢
  refine Ex_aload_n d_se_init_12 rfl ?_
  refine Ex_bipush d_se_init_13 bp_64 ?_
  refine Ex_newarrayN (a := 64) d_se_init_15 (Or.inl ⟨rfl, rfl⟩) pw_ai rfl (by decide) ?_
  rw [IN_n hI2]
  have hI3 := IN_new hI2 (show statT[20]? = some (0, 64) from rfl)
  generalize mNew h2 (0) 64 = h3 at hI3 ⊢
  refine Ex_putR (x := (some (20))) d_se_init_17 pf_se_17 (Or.inr ⟨rfl, rfl, _, rfl⟩) rfl (IN_T hI3 (by decide) rfl) rfl ?_
  have hI4 := IN_put (a := 18) (j := 3) (v := 20) hI3 (by decide) (by decide)
  generalize wR h3 18 3 (some 20) = h4 at hI4 ⊢
  refine Ex_aload_n d_se_init_20 rfl ?_
  refine Ex_aload_n d_se_init_21 rfl ?_
  refine Ex_putR (x := (some (7))) d_se_init_22 pf_se_20 (Or.inr ⟨rfl, rfl, _, rfl⟩) rfl (IN_T hI4 (by decide) rfl) rfl ?_
  have hI5 := IN_put (a := 18) (j := 0) (v := 7) hI4 (by decide) (by decide)
  generalize wR h4 18 0 (some 7) = h5 at hI5 ⊢
  refine Ex_aload_n d_se_init_25 rfl ?_
  refine Ex_aload_n d_se_init_26 rfl ?_
  refine Ex_putR (x := (some (1))) d_se_init_27 pf_se_24 (Or.inr ⟨rfl, rfl, _, rfl⟩) rfl (IN_T hI5 (by decide) rfl) rfl ?_
  have hI6 := IN_put (a := 18) (j := 1) (v := 1) hI5 (by decide) (by decide)
  generalize wR h5 18 1 (some 1) = h6 at hI6 ⊢
  refine Ex_return d_se_init_30 rfl ?_
  exact ⟨rfl, hI6⟩
theorem rs_init_i {S : mj_S} {h : mj_H} (hI : IN 22 [(0, 14, 18), (18, 1, 1), (18, 0, 7), (18, 3, 20), (18, 2, 19), (0, 13, 7), (0, 0, 1), (7, 0, 8), (7, 10, 17), (7, 9, 16), (7, 8, 15), (7, 7, 14), (7, 6, 13), (7, 5, 12), (7, 4, 11), (8, 0, 1), (8, 3, 10), (8, 2, 9), (1, 5, 6), (1, 4, 5), (1, 3, 4), (1, 2, 3), (1, 1, 2)] h) : Cl S rs_init [.ref 21] h (fun r h' => r = none ∧ IN 24 [(21, 2, 23), (21, 1, 22), (0, 14, 18), (18, 1, 1), (18, 0, 7), (18, 3, 20), (18, 2, 19), (0, 13, 7), (0, 0, 1), (7, 0, 8), (7, 10, 17), (7, 9, 16), (7, 8, 15), (7, 7, 14), (7, 6, 13), (7, 5, 12), (7, 4, 11), (8, 0, 1), (8, 3, 10), (8, 2, 9), (1, 5, 6), (1, 4, 5), (1, 3, 4), (1, 2, 3), (1, 1, 2)] h') := by
  show Ex S rs_init 0 [some (.ref 21)] [] h _
  refine Ex_aload_n d_rs_init_0 rfl ?_
  refine Ex_objInit d_rs_init_1 pm_rs_3 pw_oi pw_oc rfl ⟨Nat.le_of_ble_eq_true rfl, Nat.le_of_ble_eq_true rfl⟩ ?_
  refine Ex_aload_n d_rs_init_4 rfl ?_
  refine Ex_sipush d_rs_init_5 sp_6000 ?_
  refine Ex_newarrayN (a := 6000) d_rs_init_8 (Or.inl ⟨rfl, rfl⟩) pw_ai rfl (by decide) ?_
  rw [IN_n hI]
  have hI1 := IN_new hI (show statT[22]? = some (0, 6000) from rfl)
  generalize mNew h (0) 6000 = h1 at hI1 ⊢
  refine Ex_putR (x := (some (22))) d_rs_init_10 pf_rs_11 (Or.inr ⟨rfl, rfl, _, rfl⟩) rfl (IN_T hI1 (by decide) rfl) rfl ?_
  have hI2 := IN_put (a := 21) (j := 1) (v := 22) hI1 (by decide) (by decide)
  generalize wR h1 21 1 (some 22) = h2 at hI2 ⊢
  refine Ex_aload_n d_rs_init_13 rfl ?_
  refine Ex_sipush d_rs_init_14 sp_6000 ?_
  refine Ex_anewarrayAN (a := 6000) d_rs_init_17 pc_rs_15 rfl (by decide) ?_
  rw [IN_n hI2]
  have hI3 := IN_new hI2 (show statT[23]? = some (3, 6000) from rfl)
  generalize mNew h2 (3) 6000 = h3 at hI3 ⊢
  refine Ex_putR (x := (some (23))) d_rs_init_20 pf_rs_16 (Or.inr ⟨rfl, rfl, _, rfl⟩) rfl (IN_T hI3 (by decide) rfl) rfl ?_
  have hI4 := IN_put (a := 21) (j := 2) (v := 23) hI3 (by decide) (by decide)
  generalize wR h3 21 2 (some 23) = h4 at hI4 ⊢
  refine Ex_return d_rs_init_23 rfl ?_
  exact ⟨rfl, hI4⟩
theorem hi_init_i {S : mj_S} {h : mj_H} (hI : IN 26 [(0, 2, 24), (0, 1, 21), (21, 2, 23), (21, 1, 22), (0, 14, 18), (18, 1, 1), (18, 0, 7), (18, 3, 20), (18, 2, 19), (0, 13, 7), (0, 0, 1), (7, 0, 8), (7, 10, 17), (7, 9, 16), (7, 8, 15), (7, 7, 14), (7, 6, 13), (7, 5, 12), (7, 4, 11), (8, 0, 1), (8, 3, 10), (8, 2, 9), (1, 5, 6), (1, 4, 5), (1, 3, 4), (1, 2, 3), (1, 1, 2)] h) : Cl S hi_init [.ref 25] h (fun r h' => r = none ∧ IN 29 [(25, 4, 28), (25, 3, 27), (25, 2, 26), (0, 2, 24), (0, 1, 21), (21, 2, 23), (21, 1, 22), (0, 14, 18), (18, 1, 1), (18, 0, 7), (18, 3, 20), (18, 2, 19), (0, 13, 7), (0, 0, 1), (7, 0, 8), (7, 10, 17), (7, 9, 16), (7, 8, 15), (7, 7, 14), (7, 6, 13), (7, 5, 12), (7, 4, 11), (8, 0, 1), (8, 3, 10), (8, 2, 9), (1, 5, 6), (1, 4, 5), (1, 3, 4), (1, 2, 3), (1, 1, 2)] h') := by
  show Ex S hi_init 0 [some (.ref 25)] [] h _
  refine Ex_aload_n d_hi_init_0 rfl ?_
  refine Ex_objInit d_hi_init_1 pm_hi_3 pw_oi pw_oc rfl ⟨Nat.le_of_ble_eq_true rfl, Nat.le_of_ble_eq_true rfl⟩ ?_
  refine Ex_aload_n d_hi_init_4 rfl ?_
  refine Ex_bipush d_hi_init_5 bp_40 ?_
  refine Ex_newarrayN (a := 40) d_hi_init_7 (Or.inl ⟨rfl, rfl⟩) pw_ai rfl (by decide) ?_
  rw [IN_n hI]
  have hI1 := IN_new hI (show statT[26]? = some (0, 40) from rfl)
  generalize mNew h (0) 40 = h1 at hI1 ⊢
  refine Ex_putR (x := (some (26))) d_hi_init_9 pf_hi_11 (Or.inr ⟨rfl, rfl, _, rfl⟩) rfl (IN_T hI1 (by decide) rfl) rfl ?_
  have hI2 := IN_put (a := 25) (j := 2) (v := 26) hI1 (by decide) (by decide)
  generalize wR h1 25 2 (some 26) = h2 at hI2 ⊢
  refine Ex_aload_n d_hi_init_12 rfl ?_
  refine Ex_bipush d_hi_init_13 bp_40 ?_
  refine Ex_newarrayN (a := 40) d_hi_init_15 (Or.inl ⟨rfl, rfl⟩) pw_ai rfl (by decide) ?_
  rw [IN_n hI2]
  have hI3 := IN_new hI2 (show statT[27]? = some (0, 40) from rfl)
  generalize mNew h2 (0) 40 = h3 at hI3 ⊢
  refine Ex_putR (x := (some (27))) d_hi_init_17 pf_hi_15 (Or.inr ⟨rfl, rfl, _, rfl⟩) rfl (IN_T hI3 (by decide) rfl) rfl ?_
  have hI4 := IN_put (a := 25) (j := 3) (v := 27) hI3 (by decide) (by decide)
  generalize wR h3 25 3 (some 27) = h4 at hI4 ⊢
  refine Ex_aload_n d_hi_init_20 rfl ?_
  refine Ex_sipush d_hi_init_21 sp_2400 ?_
  refine Ex_newarrayN (a := 2400) d_hi_init_24 (Or.inl ⟨rfl, rfl⟩) pw_ai rfl (by decide) ?_
  rw [IN_n hI4]
  have hI5 := IN_new hI4 (show statT[28]? = some (0, 2400) from rfl)
  generalize mNew h4 (0) 2400 = h5 at hI5 ⊢
  refine Ex_putR (x := (some (28))) d_hi_init_26 pf_hi_20 (Or.inr ⟨rfl, rfl, _, rfl⟩) rfl (IN_T hI5 (by decide) rfl) rfl ?_
  have hI6 := IN_put (a := 25) (j := 4) (v := 28) hI5 (by decide) (by decide)
  generalize wR h5 25 4 (some 28) = h6 at hI6 ⊢
  refine Ex_return d_hi_init_29 rfl ?_
  exact ⟨rfl, hI6⟩
theorem bl_init_1 {S : mj_S} {h : mj_H} (hI : IN 30 [(0, 4, 25), (25, 4, 28), (25, 3, 27), (25, 2, 26), (0, 2, 24), (0, 1, 21), (21, 2, 23), (21, 1, 22), (0, 14, 18), (18, 1, 1), (18, 0, 7), (18, 3, 20), (18, 2, 19), (0, 13, 7), (0, 0, 1), (7, 0, 8), (7, 10, 17), (7, 9, 16), (7, 8, 15), (7, 7, 14), (7, 6, 13), (7, 5, 12), (7, 4, 11), (8, 0, 1), (8, 3, 10), (8, 2, 9), (1, 5, 6), (1, 4, 5), (1, 3, 4), (1, 2, 3), (1, 1, 2)] h) : Cl S bl_init [.ref 29, .int (400)] h (fun r h' => r = none ∧ IN 31 [(29, 2, 30), (0, 4, 25), (25, 4, 28), (25, 3, 27), (25, 2, 26), (0, 2, 24), (0, 1, 21), (21, 2, 23), (21, 1, 22), (0, 14, 18), (18, 1, 1), (18, 0, 7), (18, 3, 20), (18, 2, 19), (0, 13, 7), (0, 0, 1), (7, 0, 8), (7, 10, 17), (7, 9, 16), (7, 8, 15), (7, 7, 14), (7, 6, 13), (7, 5, 12), (7, 4, 11), (8, 0, 1), (8, 3, 10), (8, 2, 9), (1, 5, 6), (1, 4, 5), (1, 3, 4), (1, 2, 3), (1, 1, 2)] h') := by
  show Ex S bl_init 0 [some (.ref 29), some (.int (400))] [] h _
  refine Ex_aload_n d_bl_init_0 rfl ?_
  refine Ex_objInit d_bl_init_1 pm_bl_1 pw_oi pw_oc rfl ⟨Nat.le_of_ble_eq_true rfl, Nat.le_of_ble_eq_true rfl⟩ ?_
  refine Ex_aload_n d_bl_init_4 rfl ?_
  refine Ex_iconst d_bl_init_5 ic_0 ?_
  refine Ex_iload_n d_bl_init_6 rfl ?_
  refine Ex_pS2 (v := .int (nI (400))) d_bl_init_7 pk_bl_init_7 (show Cl S jd_max [.int 0, .int 400] _ (Pu (.int (nI 400)) _) from jd_max_s (S := S) (a := 0) (b := 400) (by decide) (by decide)) ?_
  refine Ex_newarrayN (a := 400) d_bl_init_10 (Or.inl ⟨rfl, rfl⟩) pw_ai rfl (by decide) ?_
  rw [IN_n hI]
  have hI1 := IN_new hI (show statT[30]? = some (0, 400) from rfl)
  generalize mNew h (0) 400 = h1 at hI1 ⊢
  refine Ex_putR (x := (some (30))) d_bl_init_12 pf_bl_13 (Or.inr ⟨rfl, rfl, _, rfl⟩) rfl (IN_T hI1 (by decide) rfl) rfl ?_
  have hI2 := IN_put (a := 29) (j := 2) (v := 30) hI1 (by decide) (by decide)
  generalize wR h1 29 2 (some 30) = h2 at hI2 ⊢
  refine Ex_return d_bl_init_15 rfl ?_
  exact ⟨rfl, hI2⟩
theorem bl_init_2 {S : mj_S} {h : mj_H} (hI : IN 32 [(0, 5, 29), (29, 2, 30), (0, 4, 25), (25, 4, 28), (25, 3, 27), (25, 2, 26), (0, 2, 24), (0, 1, 21), (21, 2, 23), (21, 1, 22), (0, 14, 18), (18, 1, 1), (18, 0, 7), (18, 3, 20), (18, 2, 19), (0, 13, 7), (0, 0, 1), (7, 0, 8), (7, 10, 17), (7, 9, 16), (7, 8, 15), (7, 7, 14), (7, 6, 13), (7, 5, 12), (7, 4, 11), (8, 0, 1), (8, 3, 10), (8, 2, 9), (1, 5, 6), (1, 4, 5), (1, 3, 4), (1, 2, 3), (1, 1, 2)] h) : Cl S bl_init [.ref 31, .int (3600)] h (fun r h' => r = none ∧ IN 33 [(31, 2, 32), (0, 5, 29), (29, 2, 30), (0, 4, 25), (25, 4, 28), (25, 3, 27), (25, 2, 26), (0, 2, 24), (0, 1, 21), (21, 2, 23), (21, 1, 22), (0, 14, 18), (18, 1, 1), (18, 0, 7), (18, 3, 20), (18, 2, 19), (0, 13, 7), (0, 0, 1), (7, 0, 8), (7, 10, 17), (7, 9, 16), (7, 8, 15), (7, 7, 14), (7, 6, 13), (7, 5, 12), (7, 4, 11), (8, 0, 1), (8, 3, 10), (8, 2, 9), (1, 5, 6), (1, 4, 5), (1, 3, 4), (1, 2, 3), (1, 1, 2)] h') := by
  show Ex S bl_init 0 [some (.ref 31), some (.int (3600))] [] h _
  refine Ex_aload_n d_bl_init_0 rfl ?_
  refine Ex_objInit d_bl_init_1 pm_bl_1 pw_oi pw_oc rfl ⟨Nat.le_of_ble_eq_true rfl, Nat.le_of_ble_eq_true rfl⟩ ?_
  refine Ex_aload_n d_bl_init_4 rfl ?_
  refine Ex_iconst d_bl_init_5 ic_0 ?_
  refine Ex_iload_n d_bl_init_6 rfl ?_
  refine Ex_pS2 (v := .int (nI (3600))) d_bl_init_7 pk_bl_init_7 (show Cl S jd_max [.int 0, .int 3600] _ (Pu (.int (nI 3600)) _) from jd_max_s (S := S) (a := 0) (b := 3600) (by decide) (by decide)) ?_
  refine Ex_newarrayN (a := 3600) d_bl_init_10 (Or.inl ⟨rfl, rfl⟩) pw_ai rfl (by decide) ?_
  rw [IN_n hI]
  have hI1 := IN_new hI (show statT[32]? = some (0, 3600) from rfl)
  generalize mNew h (0) 3600 = h1 at hI1 ⊢
  refine Ex_putR (x := (some (32))) d_bl_init_12 pf_bl_13 (Or.inr ⟨rfl, rfl, _, rfl⟩) rfl (IN_T hI1 (by decide) rfl) rfl ?_
  have hI2 := IN_put (a := 31) (j := 2) (v := 32) hI1 (by decide) (by decide)
  generalize wR h1 31 2 (some 32) = h2 at hI2 ⊢
  refine Ex_return d_bl_init_15 rfl ?_
  exact ⟨rfl, hI2⟩
theorem bl_init_3 {S : mj_S} {h : mj_H} (hI : IN 34 [(0, 6, 31), (31, 2, 32), (0, 5, 29), (29, 2, 30), (0, 4, 25), (25, 4, 28), (25, 3, 27), (25, 2, 26), (0, 2, 24), (0, 1, 21), (21, 2, 23), (21, 1, 22), (0, 14, 18), (18, 1, 1), (18, 0, 7), (18, 3, 20), (18, 2, 19), (0, 13, 7), (0, 0, 1), (7, 0, 8), (7, 10, 17), (7, 9, 16), (7, 8, 15), (7, 7, 14), (7, 6, 13), (7, 5, 12), (7, 4, 11), (8, 0, 1), (8, 3, 10), (8, 2, 9), (1, 5, 6), (1, 4, 5), (1, 3, 4), (1, 2, 3), (1, 1, 2)] h) : Cl S bl_init [.ref 33, .int (3600)] h (fun r h' => r = none ∧ IN 35 [(33, 2, 34), (0, 6, 31), (31, 2, 32), (0, 5, 29), (29, 2, 30), (0, 4, 25), (25, 4, 28), (25, 3, 27), (25, 2, 26), (0, 2, 24), (0, 1, 21), (21, 2, 23), (21, 1, 22), (0, 14, 18), (18, 1, 1), (18, 0, 7), (18, 3, 20), (18, 2, 19), (0, 13, 7), (0, 0, 1), (7, 0, 8), (7, 10, 17), (7, 9, 16), (7, 8, 15), (7, 7, 14), (7, 6, 13), (7, 5, 12), (7, 4, 11), (8, 0, 1), (8, 3, 10), (8, 2, 9), (1, 5, 6), (1, 4, 5), (1, 3, 4), (1, 2, 3), (1, 1, 2)] h') := by
  show Ex S bl_init 0 [some (.ref 33), some (.int (3600))] [] h _
  refine Ex_aload_n d_bl_init_0 rfl ?_
  refine Ex_objInit d_bl_init_1 pm_bl_1 pw_oi pw_oc rfl ⟨Nat.le_of_ble_eq_true rfl, Nat.le_of_ble_eq_true rfl⟩ ?_
  refine Ex_aload_n d_bl_init_4 rfl ?_
  refine Ex_iconst d_bl_init_5 ic_0 ?_
  refine Ex_iload_n d_bl_init_6 rfl ?_
  refine Ex_pS2 (v := .int (nI (3600))) d_bl_init_7 pk_bl_init_7 (show Cl S jd_max [.int 0, .int 3600] _ (Pu (.int (nI 3600)) _) from jd_max_s (S := S) (a := 0) (b := 3600) (by decide) (by decide)) ?_
  refine Ex_newarrayN (a := 3600) d_bl_init_10 (Or.inl ⟨rfl, rfl⟩) pw_ai rfl (by decide) ?_
  rw [IN_n hI]
  have hI1 := IN_new hI (show statT[34]? = some (0, 3600) from rfl)
  generalize mNew h (0) 3600 = h1 at hI1 ⊢
  refine Ex_putR (x := (some (34))) d_bl_init_12 pf_bl_13 (Or.inr ⟨rfl, rfl, _, rfl⟩) rfl (IN_T hI1 (by decide) rfl) rfl ?_
  have hI2 := IN_put (a := 33) (j := 2) (v := 34) hI1 (by decide) (by decide)
  generalize wR h1 33 2 (some 34) = h2 at hI2 ⊢
  refine Ex_return d_bl_init_15 rfl ?_
  exact ⟨rfl, hI2⟩
theorem to_init_i {S : mj_S} {h : mj_H} (hI : IN 1 [] h) : Cl S to_init [.ref 0] h (fun r h' => r = none ∧ IN 38 [(0, 11, 37), (0, 9, 36), (0, 8, 35), (0, 7, 33), (33, 2, 34), (0, 6, 31), (31, 2, 32), (0, 5, 29), (29, 2, 30), (0, 4, 25), (25, 4, 28), (25, 3, 27), (25, 2, 26), (0, 2, 24), (0, 1, 21), (21, 2, 23), (21, 1, 22), (0, 14, 18), (18, 1, 1), (18, 0, 7), (18, 3, 20), (18, 2, 19), (0, 13, 7), (0, 0, 1), (7, 0, 8), (7, 10, 17), (7, 9, 16), (7, 8, 15), (7, 7, 14), (7, 6, 13), (7, 5, 12), (7, 4, 11), (8, 0, 1), (8, 3, 10), (8, 2, 9), (1, 5, 6), (1, 4, 5), (1, 3, 4), (1, 2, 3), (1, 1, 2)] h') := by
  show Ex S to_init 0 [some (.ref 0), none, none] [] h _
  refine Ex_aload_n d_to_init_0 rfl ?_
  refine Ex_objInit d_to_init_1 pm_to_1 pw_oi pw_oc rfl ⟨Nat.le_of_ble_eq_true rfl, Nat.le_of_ble_eq_true rfl⟩ ?_
  refine Ex_new (ci := 5) d_to_init_4 rfl pc_to_7 ?_
  rw [IN_n hI]
  have hI1 := IN_new hI (show statT[1]? = some (10 + 5, 6) from rfl)
  generalize mNew h (10 + 5) 6 = h1 at hI1 ⊢
  refine Ex_dup rfl d_to_init_7 ?_
  refine Ex_cN0 d_to_init_8 pk_to_init_9 (ki_init_i hI1) ?_
  rintro rv h2 ⟨rfl, hI2⟩
  show Ex S to_init 11 [some (.ref 0), none, none] [.ref 1] h2 _
  refine Ex_astore_n [some (.ref 0), some (.ref 1), none] d_to_init_11 (Nat.le_of_ble_eq_true rfl) rfl ?_
  refine Ex_new (ci := 1) d_to_init_12 rfl pc_to_10 ?_
  rw [IN_n hI2]
  have hI3 := IN_new hI2 (show statT[7]? = some (10 + 1, 11) from rfl)
  generalize mNew h2 (10 + 1) 11 = h3 at hI3 ⊢
  refine Ex_dup rfl d_to_init_15 ?_
  refine Ex_new (ci := 2) d_to_init_16 rfl pc_to_12 ?_
  rw [IN_n hI3]
  have hI4 := IN_new hI3 (show statT[8]? = some (10 + 2, 4) from rfl)
  generalize mNew h3 (10 + 2) 4 = h4 at hI4 ⊢
  refine Ex_dup rfl d_to_init_19 ?_
  refine Ex_aload_n d_to_init_20 rfl ?_
  refine Ex_cI1 d_to_init_21 pk_to_init_14 (ch_init_i hI4) ?_
  rintro rv h5 ⟨rfl, hI5⟩
  show Ex S to_init 24 [some (.ref 0), some (.ref 1), none] [.ref 8, .ref 7, .ref 7] h5 _
  refine Ex_cI1 d_to_init_24 pk_to_init_17 (bo_init_i hI5) ?_
  rintro rv h6 ⟨rfl, hI6⟩
  show Ex S to_init 27 [some (.ref 0), some (.ref 1), none] [.ref 7] h6 _
  refine Ex_astore_n [some (.ref 0), some (.ref 1), some (.ref 7)] d_to_init_27 (Nat.le_of_ble_eq_true rfl) rfl ?_
  refine Ex_aload_n d_to_init_28 rfl ?_
  refine Ex_aload_n d_to_init_29 rfl ?_
  refine Ex_putR (x := (some (1))) d_to_init_30 pf_to_20 (Or.inr ⟨rfl, rfl, _, rfl⟩) rfl (IN_T hI6 (by decide) rfl) rfl ?_
  have hI7 := IN_put (a := 0) (j := 0) (v := 1) hI6 (by decide) (by decide)
  generalize wR h6 0 0 (some 1) = h7 at hI7 ⊢
  refine Ex_aload_n d_to_init_33 rfl ?_
  refine Ex_aload_n d_to_init_34 rfl ?_
  refine Ex_putR (x := (some (7))) d_to_init_35 pf_to_26 (Or.inr ⟨rfl, rfl, _, rfl⟩) rfl (IN_T hI7 (by decide) rfl) rfl ?_
  have hI8 := IN_put (a := 0) (j := 13) (v := 7) hI7 (by decide) (by decide)
  generalize wR h7 0 13 (some 7) = h8 at hI8 ⊢
  refine Ex_aload_n d_to_init_38 rfl ?_
  refine Ex_new (ci := 9) d_to_init_39 rfl pc_to_30 ?_
  rw [IN_n hI8]
  have hI9 := IN_new hI8 (show statT[18]? = some (10 + 9, 13) from rfl)
  generalize mNew h8 (10 + 9) 13 = h9 at hI9 ⊢
  refine Ex_dup rfl d_to_init_42 ?_
  refine Ex_aload_n d_to_init_43 rfl ?_
  refine Ex_aload_n d_to_init_44 rfl ?_
  refine Ex_cI2 d_to_init_45 pk_to_init_32 (se_init_i hI9) ?_
  rintro rv h10 ⟨rfl, hI10⟩
  show Ex S to_init 48 [some (.ref 0), some (.ref 1), some (.ref 7)] [.ref 18, .ref 0] h10 _
  refine Ex_putR (x := (some (18))) d_to_init_48 pf_to_35 (Or.inr ⟨rfl, rfl, _, rfl⟩) rfl (IN_T hI10 (by decide) rfl) rfl ?_
  have hI11 := IN_put (a := 0) (j := 14) (v := 18) hI10 (by decide) (by decide)
  generalize wR h10 0 14 (some 18) = h11 at hI11 ⊢
  refine Ex_aload_n d_to_init_51 rfl ?_
  refine Ex_new (ci := 7) d_to_init_52 rfl pc_to_39 ?_
  rw [IN_n hI11]
  have hI12 := IN_new hI11 (show statT[21]? = some (10 + 7, 3) from rfl)
  generalize mNew h11 (10 + 7) 3 = h12 at hI12 ⊢
  refine Ex_dup rfl d_to_init_55 ?_
  refine Ex_cN0 d_to_init_56 pk_to_init_41 (rs_init_i hI12) ?_
  rintro rv h13 ⟨rfl, hI13⟩
  show Ex S to_init 59 [some (.ref 0), some (.ref 1), some (.ref 7)] [.ref 21, .ref 0] h13 _
  refine Ex_putR (x := (some (21))) d_to_init_59 pf_to_42 (Or.inr ⟨rfl, rfl, _, rfl⟩) rfl (IN_T hI13 (by decide) rfl) rfl ?_
  have hI14 := IN_put (a := 0) (j := 1) (v := 21) hI13 (by decide) (by decide)
  generalize wR h13 0 1 (some 21) = h14 at hI14 ⊢
  refine Ex_aload_n d_to_init_62 rfl ?_
  refine Ex_bipush d_to_init_63 bp_16 ?_
  refine Ex_anewarrayN (t := 4) (a := 16) d_to_init_65 (Or.inl ⟨rfl, rfl⟩) pc_to_46 rfl (by decide) ?_
  rw [IN_n hI14]
  have hI15 := IN_new hI14 (show statT[24]? = some (4, 16) from rfl)
  generalize mNew h14 (4) 16 = h15 at hI15 ⊢
  refine Ex_putR (x := (some (24))) d_to_init_68 pf_to_48 (Or.inr ⟨rfl, rfl, _, rfl⟩) rfl (IN_T hI15 (by decide) rfl) rfl ?_
  have hI16 := IN_put (a := 0) (j := 2) (v := 24) hI15 (by decide) (by decide)
  generalize wR h15 0 2 (some 24) = h16 at hI16 ⊢
  refine Ex_aload_n d_to_init_71 rfl ?_
  refine Ex_new (ci := 4) d_to_init_72 rfl pc_to_52 ?_
  rw [IN_n hI16]
  have hI17 := IN_new hI16 (show statT[25]? = some (10 + 4, 5) from rfl)
  generalize mNew h16 (10 + 4) 5 = h17 at hI17 ⊢
  refine Ex_dup rfl d_to_init_75 ?_
  refine Ex_cN0 d_to_init_76 pk_to_init_54 (hi_init_i hI17) ?_
  rintro rv h18 ⟨rfl, hI18⟩
  show Ex S to_init 79 [some (.ref 0), some (.ref 1), some (.ref 7)] [.ref 25, .ref 0] h18 _
  refine Ex_putR (x := (some (25))) d_to_init_79 pf_to_55 (Or.inr ⟨rfl, rfl, _, rfl⟩) rfl (IN_T hI18 (by decide) rfl) rfl ?_
  have hI19 := IN_put (a := 0) (j := 4) (v := 25) hI18 (by decide) (by decide)
  generalize wR h18 0 4 (some 25) = h19 at hI19 ⊢
  refine Ex_aload_n d_to_init_82 rfl ?_
  refine Ex_new (ci := 0) d_to_init_83 rfl pc_to_59 ?_
  rw [IN_n hI19]
  have hI20 := IN_new hI19 (show statT[29]? = some (10 + 0, 3) from rfl)
  generalize mNew h19 (10 + 0) 3 = h20 at hI20 ⊢
  refine Ex_dup rfl d_to_init_86 ?_
  refine Ex_sipush d_to_init_87 sp_400 ?_
  refine Ex_cI1 d_to_init_90 pk_to_init_61 (bl_init_1 hI20) ?_
  rintro rv h21 ⟨rfl, hI21⟩
  show Ex S to_init 93 [some (.ref 0), some (.ref 1), some (.ref 7)] [.ref 29, .ref 0] h21 _
  refine Ex_putR (x := (some (29))) d_to_init_93 pf_to_64 (Or.inr ⟨rfl, rfl, _, rfl⟩) rfl (IN_T hI21 (by decide) rfl) rfl ?_
  have hI22 := IN_put (a := 0) (j := 5) (v := 29) hI21 (by decide) (by decide)
  generalize wR h21 0 5 (some 29) = h22 at hI22 ⊢
  refine Ex_aload_n d_to_init_96 rfl ?_
  refine Ex_new (ci := 0) d_to_init_97 rfl pc_to_59 ?_
  rw [IN_n hI22]
  have hI23 := IN_new hI22 (show statT[31]? = some (10 + 0, 3) from rfl)
  generalize mNew h22 (10 + 0) 3 = h23 at hI23 ⊢
  refine Ex_dup rfl d_to_init_100 ?_
  refine Ex_sipush d_to_init_101 sp_3600 ?_
  refine Ex_cI1 d_to_init_104 pk_to_init_61 (bl_init_2 hI23) ?_
  rintro rv h24 ⟨rfl, hI24⟩
  show Ex S to_init 107 [some (.ref 0), some (.ref 1), some (.ref 7)] [.ref 31, .ref 0] h24 _
  refine Ex_putR (x := (some (31))) d_to_init_107 pf_to_68 (Or.inr ⟨rfl, rfl, _, rfl⟩) rfl (IN_T hI24 (by decide) rfl) rfl ?_
  have hI25 := IN_put (a := 0) (j := 6) (v := 31) hI24 (by decide) (by decide)
  generalize wR h24 0 6 (some 31) = h25 at hI25 ⊢
  refine Ex_aload_n d_to_init_110 rfl ?_
  refine Ex_new (ci := 0) d_to_init_111 rfl pc_to_59 ?_
  rw [IN_n hI25]
  have hI26 := IN_new hI25 (show statT[33]? = some (10 + 0, 3) from rfl)
  generalize mNew h25 (10 + 0) 3 = h26 at hI26 ⊢
  refine Ex_dup rfl d_to_init_114 ?_
  refine Ex_sipush d_to_init_115 sp_3600 ?_
  refine Ex_cI1 d_to_init_118 pk_to_init_61 (bl_init_3 hI26) ?_
  rintro rv h27 ⟨rfl, hI27⟩
  show Ex S to_init 121 [some (.ref 0), some (.ref 1), some (.ref 7)] [.ref 33, .ref 0] h27 _
  refine Ex_putR (x := (some (33))) d_to_init_121 pf_to_71 (Or.inr ⟨rfl, rfl, _, rfl⟩) rfl (IN_T hI27 (by decide) rfl) rfl ?_
  have hI28 := IN_put (a := 0) (j := 7) (v := 33) hI27 (by decide) (by decide)
  generalize wR h27 0 7 (some 33) = h28 at hI28 ⊢
  refine Ex_aload_n d_to_init_124 rfl ?_
  refine Ex_sipush d_to_init_125 sp_3600 ?_
  refine Ex_newarrayN (a := 3600) d_to_init_128 (Or.inl ⟨rfl, rfl⟩) pw_ai rfl (by decide) ?_
  rw [IN_n hI28]
  have hI29 := IN_new hI28 (show statT[35]? = some (0, 3600) from rfl)
  generalize mNew h28 (0) 3600 = h29 at hI29 ⊢
  refine Ex_putR (x := (some (35))) d_to_init_130 pf_to_74 (Or.inr ⟨rfl, rfl, _, rfl⟩) rfl (IN_T hI29 (by decide) rfl) rfl ?_
  have hI30 := IN_put (a := 0) (j := 8) (v := 35) hI29 (by decide) (by decide)
  generalize wR h29 0 8 (some 35) = h30 at hI30 ⊢
  refine Ex_aload_n d_to_init_133 rfl ?_
  refine Ex_bipush d_to_init_134 bp_8 ?_
  refine Ex_anewarrayN (t := 5) (a := 8) d_to_init_136 (Or.inr (Or.inl ⟨rfl, rfl⟩)) pc_to_78 rfl (by decide) ?_
  rw [IN_n hI30]
  have hI31 := IN_new hI30 (show statT[36]? = some (5, 8) from rfl)
  generalize mNew h30 (5) 8 = h31 at hI31 ⊢
  refine Ex_putR (x := (some (36))) d_to_init_139 pf_to_80 (Or.inr ⟨rfl, rfl, _, rfl⟩) rfl (IN_T hI31 (by decide) rfl) rfl ?_
  have hI32 := IN_put (a := 0) (j := 9) (v := 36) hI31 (by decide) (by decide)
  generalize wR h31 0 9 (some 36) = h32 at hI32 ⊢
  refine Ex_aload_n d_to_init_142 rfl ?_
  refine Ex_bipush d_to_init_143 bp_6 ?_
  refine Ex_anewarrayN (t := 6) (a := 6) d_to_init_145 (Or.inr (Or.inr ⟨rfl, rfl⟩)) pc_to_84 rfl (by decide) ?_
  rw [IN_n hI32]
  have hI33 := IN_new hI32 (show statT[37]? = some (6, 6) from rfl)
  generalize mNew h32 (6) 6 = h33 at hI33 ⊢
  refine Ex_putR (x := (some (37))) d_to_init_148 pf_to_86 (Or.inr ⟨rfl, rfl, _, rfl⟩) rfl (IN_T hI33 (by decide) rfl) rfl ?_
  have hI34 := IN_put (a := 0) (j := 11) (v := 37) hI33 (by decide) (by decide)
  generalize wR h33 0 11 (some 37) = h34 at hI34 ⊢
  refine Ex_return d_to_init_151 rfl ?_
  exact ⟨rfl, hI34⟩
theorem rm_init_i {S : mj_S} {h : mj_H} (hI : IN 39 [(0, 11, 37), (0, 9, 36), (0, 8, 35), (0, 7, 33), (33, 2, 34), (0, 6, 31), (31, 2, 32), (0, 5, 29), (29, 2, 30), (0, 4, 25), (25, 4, 28), (25, 3, 27), (25, 2, 26), (0, 2, 24), (0, 1, 21), (21, 2, 23), (21, 1, 22), (0, 14, 18), (18, 1, 1), (18, 0, 7), (18, 3, 20), (18, 2, 19), (0, 13, 7), (0, 0, 1), (7, 0, 8), (7, 10, 17), (7, 9, 16), (7, 8, 15), (7, 7, 14), (7, 6, 13), (7, 5, 12), (7, 4, 11), (8, 0, 1), (8, 3, 10), (8, 2, 9), (1, 5, 6), (1, 4, 5), (1, 3, 4), (1, 2, 3), (1, 1, 2)] h) : Cl S rm_init [.ref 38] h (fun r h' => r = none ∧ IN 74 [(38, 48, 73), (38, 47, 72), (38, 46, 71), (38, 45, 70), (38, 44, 69), (38, 39, 68), (38, 38, 67), (38, 37, 66), (38, 36, 65), (38, 35, 64), (38, 34, 63), (38, 33, 62), (38, 32, 61), (38, 31, 60), (38, 30, 59), (38, 28, 58), (38, 27, 57), (38, 26, 56), (38, 23, 55), (38, 22, 54), (38, 21, 53), (38, 20, 52), (38, 15, 51), (38, 14, 50), (38, 13, 49), (38, 11, 48), (38, 10, 47), (38, 8, 46), (38, 7, 45), (38, 6, 44), (38, 4, 43), (38, 3, 42), (38, 2, 41), (38, 1, 40), (38, 0, 39), (0, 11, 37), (0, 9, 36), (0, 8, 35), (0, 7, 33), (33, 2, 34), (0, 6, 31), (31, 2, 32), (0, 5, 29), (29, 2, 30), (0, 4, 25), (25, 4, 28), (25, 3, 27), (25, 2, 26), (0, 2, 24), (0, 1, 21), (21, 2, 23), (21, 1, 22), (0, 14, 18), (18, 1, 1), (18, 0, 7), (18, 3, 20), (18, 2, 19), (0, 13, 7), (0, 0, 1), (7, 0, 8), (7, 10, 17), (7, 9, 16), (7, 8, 15), (7, 7, 14), (7, 6, 13), (7, 5, 12), (7, 4, 11), (8, 0, 1), (8, 3, 10), (8, 2, 9), (1, 5, 6), (1, 4, 5), (1, 3, 4), (1, 2, 3), (1, 1, 2)] h') := by
  show Ex S rm_init 0 [some (.ref 38)] [] h _
  refine Ex_aload_n d_rm_init_0 rfl ?_
  refine Ex_objInit d_rm_init_1 pm_rm_1 pw_oi pw_oc rfl ⟨Nat.le_of_ble_eq_true rfl, Nat.le_of_ble_eq_true rfl⟩ ?_
  refine Ex_aload_n d_rm_init_4 rfl ?_
  refine Ex_bipush d_rm_init_5 bp_40 ?_
  refine Ex_newarrayN (a := 40) d_rm_init_7 (Or.inl ⟨rfl, rfl⟩) pw_ai rfl (by decide) ?_
  rw [IN_n hI]
  have hI1 := IN_new hI (show statT[39]? = some (0, 40) from rfl)
  generalize mNew h (0) 40 = h1 at hI1 ⊢
  refine Ex_putR (x := (some (39))) d_rm_init_9 pf_rm_7 (Or.inr ⟨rfl, rfl, _, rfl⟩) rfl (IN_T hI1 (by decide) rfl) rfl ?_
  have hI2 := IN_put (a := 38) (j := 0) (v := 39) hI1 (by decide) (by decide)
  generalize wR h1 38 0 (some 39) = h2 at hI2 ⊢
  refine Ex_aload_n d_rm_init_12 rfl ?_
  refine Ex_bipush d_rm_init_13 bp_40 ?_
  refine Ex_newarrayN (a := 40) d_rm_init_15 (Or.inl ⟨rfl, rfl⟩) pw_ai rfl (by decide) ?_
  rw [IN_n hI2]
  have hI3 := IN_new hI2 (show statT[40]? = some (0, 40) from rfl)
  generalize mNew h2 (0) 40 = h3 at hI3 ⊢
  refine Ex_putR (x := (some (40))) d_rm_init_17 pf_rm_13 (Or.inr ⟨rfl, rfl, _, rfl⟩) rfl (IN_T hI3 (by decide) rfl) rfl ?_
  have hI4 := IN_put (a := 38) (j := 1) (v := 40) hI3 (by decide) (by decide)
  generalize wR h3 38 1 (some 40) = h4 at hI4 ⊢
  refine Ex_aload_n d_rm_init_20 rfl ?_
  refine Ex_bipush d_rm_init_21 bp_40 ?_
  refine Ex_newarrayN (a := 40) d_rm_init_23 (Or.inl ⟨rfl, rfl⟩) pw_ai rfl (by decide) ?_
  rw [IN_n hI4]
  have hI5 := IN_new hI4 (show statT[41]? = some (0, 40) from rfl)
  generalize mNew h4 (0) 40 = h5 at hI5 ⊢
  refine Ex_putR (x := (some (41))) d_rm_init_25 pf_rm_16 (Or.inr ⟨rfl, rfl, _, rfl⟩) rfl (IN_T hI5 (by decide) rfl) rfl ?_
  have hI6 := IN_put (a := 38) (j := 2) (v := 41) hI5 (by decide) (by decide)
  generalize wR h5 38 2 (some 41) = h6 at hI6 ⊢
  refine Ex_aload_n d_rm_init_28 rfl ?_
  refine Ex_bipush d_rm_init_29 bp_40 ?_
  refine Ex_newarrayN (a := 40) d_rm_init_31 (Or.inr (Or.inr ⟨rfl, rfl⟩)) pw_ab rfl (by decide) ?_
  rw [IN_n hI6]
  have hI7 := IN_new hI6 (show statT[42]? = some (2, 40) from rfl)
  generalize mNew h6 (2) 40 = h7 at hI7 ⊢
  refine Ex_putR (x := (some (42))) d_rm_init_33 pf_rm_19 (Or.inr ⟨rfl, rfl, _, rfl⟩) rfl (IN_T hI7 (by decide) rfl) rfl ?_
  have hI8 := IN_put (a := 38) (j := 3) (v := 42) hI7 (by decide) (by decide)
  generalize wR h7 38 3 (some 42) = h8 at hI8 ⊢
  refine Ex_aload_n d_rm_init_36 rfl ?_
  refine Ex_bipush d_rm_init_37 bp_40 ?_
  refine Ex_newarrayN (a := 40) d_rm_init_39 (Or.inr (Or.inl ⟨rfl, rfl⟩)) pw_al rfl (by decide) ?_
  rw [IN_n hI8]
  have hI9 := IN_new hI8 (show statT[43]? = some (1, 40) from rfl)
  generalize mNew h8 (1) 40 = h9 at hI9 ⊢
  refine Ex_putR (x := (some (43))) d_rm_init_41 pf_rm_23 (Or.inr ⟨rfl, rfl, _, rfl⟩) rfl (IN_T hI9 (by decide) rfl) rfl ?_
  have hI10 := IN_put (a := 38) (j := 4) (v := 43) hI9 (by decide) (by decide)
  generalize wR h9 38 4 (some 43) = h10 at hI10 ⊢
  refine Ex_aload_n d_rm_init_44 rfl ?_
  refine Ex_sipush d_rm_init_45 sp_6000 ?_
  refine Ex_newarrayN (a := 6000) d_rm_init_48 (Or.inl ⟨rfl, rfl⟩) pw_ai rfl (by decide) ?_
  rw [IN_n hI10]
  have hI11 := IN_new hI10 (show statT[44]? = some (0, 6000) from rfl)
  generalize mNew h10 (0) 6000 = h11 at hI11 ⊢
  refine Ex_putR (x := (some (44))) d_rm_init_50 pf_rm_27 (Or.inr ⟨rfl, rfl, _, rfl⟩) rfl (IN_T hI11 (by decide) rfl) rfl ?_
  have hI12 := IN_put (a := 38) (j := 6) (v := 44) hI11 (by decide) (by decide)
  generalize wR h11 38 6 (some 44) = h12 at hI12 ⊢
  refine Ex_aload_n d_rm_init_53 rfl ?_
  refine Ex_sipush d_rm_init_54 sp_6000 ?_
  refine Ex_newarrayN (a := 6000) d_rm_init_57 (Or.inl ⟨rfl, rfl⟩) pw_ai rfl (by decide) ?_
  rw [IN_n hI12]
  have hI13 := IN_new hI12 (show statT[45]? = some (0, 6000) from rfl)
  generalize mNew h12 (0) 6000 = h13 at hI13 ⊢
  refine Ex_putR (x := (some (45))) d_rm_init_59 pf_rm_30 (Or.inr ⟨rfl, rfl, _, rfl⟩) rfl (IN_T hI13 (by decide) rfl) rfl ?_
  have hI14 := IN_put (a := 38) (j := 7) (v := 45) hI13 (by decide) (by decide)
  generalize wR h13 38 7 (some 45) = h14 at hI14 ⊢
  refine Ex_aload_n d_rm_init_62 rfl ?_
  refine Ex_ldc pi_rm_33 d_rm_init_63 ?_
  refine Ex_newarrayN (a := 360000) d_rm_init_65 (Or.inl ⟨rfl, rfl⟩) pw_ai rfl (by decide) ?_
  rw [IN_n hI14]
  have hI15 := IN_new hI14 (show statT[46]? = some (0, 360000) from rfl)
  generalize mNew h14 (0) 360000 = h15 at hI15 ⊢
  refine Ex_putR (x := (some (46))) d_rm_init_67 pf_rm_34 (Or.inr ⟨rfl, rfl, _, rfl⟩) rfl (IN_T hI15 (by decide) rfl) rfl ?_
  have hI16 := IN_put (a := 38) (j := 8) (v := 46) hI15 (by decide) (by decide)
  generalize wR h15 38 8 (some 46) = h16 at hI16 ⊢
  refine Ex_aload_n d_rm_init_70 rfl ?_
  refine Ex_sipush d_rm_init_71 sp_960 ?_
  refine Ex_newarrayN (a := 960) d_rm_init_74 (Or.inl ⟨rfl, rfl⟩) pw_ai rfl (by decide) ?_
  rw [IN_n hI16]
  have hI17 := IN_new hI16 (show statT[47]? = some (0, 960) from rfl)
  generalize mNew h16 (0) 960 = h17 at hI17 ⊢
  refine Ex_putR (x := (some (47))) d_rm_init_76 pf_rm_37 (Or.inr ⟨rfl, rfl, _, rfl⟩) rfl (IN_T hI17 (by decide) rfl) rfl ?_
  have hI18 := IN_put (a := 38) (j := 10) (v := 47) hI17 (by decide) (by decide)
  generalize wR h17 38 10 (some 47) = h18 at hI18 ⊢
  refine Ex_aload_n d_rm_init_79 rfl ?_
  refine Ex_bipush d_rm_init_80 bp_16 ?_
  refine Ex_newarrayN (a := 16) d_rm_init_82 (Or.inl ⟨rfl, rfl⟩) pw_ai rfl (by decide) ?_
  rw [IN_n hI18]
  have hI19 := IN_new hI18 (show statT[48]? = some (0, 16) from rfl)
  generalize mNew h18 (0) 16 = h19 at hI19 ⊢
  refine Ex_putR (x := (some (48))) d_rm_init_84 pf_rm_40 (Or.inr ⟨rfl, rfl, _, rfl⟩) rfl (IN_T hI19 (by decide) rfl) rfl ?_
  have hI20 := IN_put (a := 38) (j := 11) (v := 48) hI19 (by decide) (by decide)
  generalize wR h19 38 11 (some 48) = h20 at hI20 ⊢
  refine Ex_aload_n d_rm_init_87 rfl ?_
  refine Ex_bipush d_rm_init_88 bp_40 ?_
  refine Ex_newarrayN (a := 40) d_rm_init_90 (Or.inl ⟨rfl, rfl⟩) pw_ai rfl (by decide) ?_
  rw [IN_n hI20]
  have hI21 := IN_new hI20 (show statT[49]? = some (0, 40) from rfl)
  generalize mNew h20 (0) 40 = h21 at hI21 ⊢
  refine Ex_putR (x := (some (49))) d_rm_init_92 pf_rm_43 (Or.inr ⟨rfl, rfl, _, rfl⟩) rfl (IN_T hI21 (by decide) rfl) rfl ?_
  have hI22 := IN_put (a := 38) (j := 13) (v := 49) hI21 (by decide) (by decide)
  generalize wR h21 38 13 (some 49) = h22 at hI22 ⊢
  refine Ex_aload_n d_rm_init_95 rfl ?_
  refine Ex_bipush d_rm_init_96 bp_40 ?_
  refine Ex_newarrayN (a := 40) d_rm_init_98 (Or.inl ⟨rfl, rfl⟩) pw_ai rfl (by decide) ?_
  rw [IN_n hI22]
  have hI23 := IN_new hI22 (show statT[50]? = some (0, 40) from rfl)
  generalize mNew h22 (0) 40 = h23 at hI23 ⊢
  refine Ex_putR (x := (some (50))) d_rm_init_100 pf_rm_46 (Or.inr ⟨rfl, rfl, _, rfl⟩) rfl (IN_T hI23 (by decide) rfl) rfl ?_
  have hI24 := IN_put (a := 38) (j := 14) (v := 50) hI23 (by decide) (by decide)
  generalize wR h23 38 14 (some 50) = h24 at hI24 ⊢
  refine Ex_aload_n d_rm_init_103 rfl ?_
  refine Ex_sipush d_rm_init_104 sp_2400 ?_
  refine Ex_newarrayN (a := 2400) d_rm_init_107 (Or.inl ⟨rfl, rfl⟩) pw_ai rfl (by decide) ?_
  rw [IN_n hI24]
  have hI25 := IN_new hI24 (show statT[51]? = some (0, 2400) from rfl)
  generalize mNew h24 (0) 2400 = h25 at hI25 ⊢
  refine Ex_putR (x := (some (51))) d_rm_init_109 pf_rm_49 (Or.inr ⟨rfl, rfl, _, rfl⟩) rfl (IN_T hI25 (by decide) rfl) rfl ?_
  have hI26 := IN_put (a := 38) (j := 15) (v := 51) hI25 (by decide) (by decide)
  generalize wR h25 38 15 (some 51) = h26 at hI26 ⊢
  refine Ex_aload_n d_rm_init_112 rfl ?_
  refine Ex_sipush d_rm_init_113 sp_400 ?_
  refine Ex_newarrayN (a := 400) d_rm_init_116 (Or.inl ⟨rfl, rfl⟩) pw_ai rfl (by decide) ?_
  rw [IN_n hI26]
  have hI27 := IN_new hI26 (show statT[52]? = some (0, 400) from rfl)
  generalize mNew h26 (0) 400 = h27 at hI27 ⊢
  refine Ex_putR (x := (some (52))) d_rm_init_118 pf_rm_52 (Or.inr ⟨rfl, rfl, _, rfl⟩) rfl (IN_T hI27 (by decide) rfl) rfl ?_
  have hI28 := IN_put (a := 38) (j := 20) (v := 52) hI27 (by decide) (by decide)
  generalize wR h27 38 20 (some 52) = h28 at hI28 ⊢
  refine Ex_aload_n d_rm_init_121 rfl ?_
  refine Ex_sipush d_rm_init_122 sp_400 ?_
  refine Ex_newarrayN (a := 400) d_rm_init_125 (Or.inl ⟨rfl, rfl⟩) pw_ai rfl (by decide) ?_
  rw [IN_n hI28]
  have hI29 := IN_new hI28 (show statT[53]? = some (0, 400) from rfl)
  generalize mNew h28 (0) 400 = h29 at hI29 ⊢
  refine Ex_putR (x := (some (53))) d_rm_init_127 pf_rm_55 (Or.inr ⟨rfl, rfl, _, rfl⟩) rfl (IN_T hI29 (by decide) rfl) rfl ?_
  have hI30 := IN_put (a := 38) (j := 21) (v := 53) hI29 (by decide) (by decide)
  generalize wR h29 38 21 (some 53) = h30 at hI30 ⊢
  refine Ex_aload_n d_rm_init_130 rfl ?_
  refine Ex_sipush d_rm_init_131 sp_400 ?_
  refine Ex_newarrayN (a := 400) d_rm_init_134 (Or.inr (Or.inr ⟨rfl, rfl⟩)) pw_ab rfl (by decide) ?_
  rw [IN_n hI30]
  have hI31 := IN_new hI30 (show statT[54]? = some (2, 400) from rfl)
  generalize mNew h30 (2) 400 = h31 at hI31 ⊢
  refine Ex_putR (x := (some (54))) d_rm_init_136 pf_rm_58 (Or.inr ⟨rfl, rfl, _, rfl⟩) rfl (IN_T hI31 (by decide) rfl) rfl ?_
  have hI32 := IN_put (a := 38) (j := 22) (v := 54) hI31 (by decide) (by decide)
  generalize wR h31 38 22 (some 54) = h32 at hI32 ⊢
  refine Ex_aload_n d_rm_init_139 rfl ?_
  refine Ex_sipush d_rm_init_140 sp_400 ?_
  refine Ex_newarrayN (a := 400) d_rm_init_143 (Or.inr (Or.inr ⟨rfl, rfl⟩)) pw_ab rfl (by decide) ?_
  rw [IN_n hI32]
  have hI33 := IN_new hI32 (show statT[55]? = some (2, 400) from rfl)
  generalize mNew h32 (2) 400 = h33 at hI33 ⊢
  refine Ex_putR (x := (some (55))) d_rm_init_145 pf_rm_61 (Or.inr ⟨rfl, rfl, _, rfl⟩) rfl (IN_T hI33 (by decide) rfl) rfl ?_
  have hI34 := IN_put (a := 38) (j := 23) (v := 55) hI33 (by decide) (by decide)
  generalize wR h33 38 23 (some 55) = h34 at hI34 ⊢
  refine Ex_aload_n d_rm_init_148 rfl ?_
  refine Ex_bipush d_rm_init_149 bp_8 ?_
  refine Ex_newarrayN (a := 8) d_rm_init_151 (Or.inl ⟨rfl, rfl⟩) pw_ai rfl (by decide) ?_
  rw [IN_n hI34]
  have hI35 := IN_new hI34 (show statT[56]? = some (0, 8) from rfl)
  generalize mNew h34 (0) 8 = h35 at hI35 ⊢
  refine Ex_putR (x := (some (56))) d_rm_init_153 pf_rm_64 (Or.inr ⟨rfl, rfl, _, rfl⟩) rfl (IN_T hI35 (by decide) rfl) rfl ?_
  have hI36 := IN_put (a := 38) (j := 26) (v := 56) hI35 (by decide) (by decide)
  generalize wR h35 38 26 (some 56) = h36 at hI36 ⊢
  refine Ex_aload_n d_rm_init_156 rfl ?_
  refine Ex_bipush d_rm_init_157 bp_8 ?_
  refine Ex_newarrayN (a := 8) d_rm_init_159 (Or.inl ⟨rfl, rfl⟩) pw_ai rfl (by decide) ?_
  rw [IN_n hI36]
  have hI37 := IN_new hI36 (show statT[57]? = some (0, 8) from rfl)
  generalize mNew h36 (0) 8 = h37 at hI37 ⊢
  refine Ex_putR (x := (some (57))) d_rm_init_161 pf_rm_67 (Or.inr ⟨rfl, rfl, _, rfl⟩) rfl (IN_T hI37 (by decide) rfl) rfl ?_
  have hI38 := IN_put (a := 38) (j := 27) (v := 57) hI37 (by decide) (by decide)
  generalize wR h37 38 27 (some 57) = h38 at hI38 ⊢
  refine Ex_aload_n d_rm_init_164 rfl ?_
  refine Ex_sipush d_rm_init_165 sp_5120 ?_
  refine Ex_newarrayN (a := 5120) d_rm_init_168 (Or.inl ⟨rfl, rfl⟩) pw_ai rfl (by decide) ?_
  rw [IN_n hI38]
  have hI39 := IN_new hI38 (show statT[58]? = some (0, 5120) from rfl)
  generalize mNew h38 (0) 5120 = h39 at hI39 ⊢
  refine Ex_putR (x := (some (58))) d_rm_init_170 pf_rm_70 (Or.inr ⟨rfl, rfl, _, rfl⟩) rfl (IN_T hI39 (by decide) rfl) rfl ?_
  have hI40 := IN_put (a := 38) (j := 28) (v := 58) hI39 (by decide) (by decide)
  generalize wR h39 38 28 (some 58) = h40 at hI40 ⊢
  refine Ex_aload_n d_rm_init_173 rfl ?_
  refine Ex_sipush d_rm_init_174 sp_7200 ?_
  refine Ex_newarrayN (a := 7200) d_rm_init_177 (Or.inl ⟨rfl, rfl⟩) pw_ai rfl (by decide) ?_
  rw [IN_n hI40]
  have hI41 := IN_new hI40 (show statT[59]? = some (0, 7200) from rfl)
  generalize mNew h40 (0) 7200 = h41 at hI41 ⊢
  refine Ex_putR (x := (some (59))) d_rm_init_179 pf_rm_73 (Or.inr ⟨rfl, rfl, _, rfl⟩) rfl (IN_T hI41 (by decide) rfl) rfl ?_
  have hI42 := IN_put (a := 38) (j := 30) (v := 59) hI41 (by decide) (by decide)
  generalize wR h41 38 30 (some 59) = h42 at hI42 ⊢
  refine Ex_aload_n d_rm_init_182 rfl ?_
  refine Ex_bipush d_rm_init_183 bp_120 ?_
  refine Ex_newarrayN (a := 120) d_rm_init_185 (Or.inl ⟨rfl, rfl⟩) pw_ai rfl (by decide) ?_
  rw [IN_n hI42]
  have hI43 := IN_new hI42 (show statT[60]? = some (0, 120) from rfl)
  generalize mNew h42 (0) 120 = h43 at hI43 ⊢
  refine Ex_putR (x := (some (60))) d_rm_init_187 pf_rm_76 (Or.inr ⟨rfl, rfl, _, rfl⟩) rfl (IN_T hI43 (by decide) rfl) rfl ?_
  have hI44 := IN_put (a := 38) (j := 31) (v := 60) hI43 (by decide) (by decide)
  generalize wR h43 38 31 (some 60) = h44 at hI44 ⊢
  refine Ex_aload_n d_rm_init_190 rfl ?_
  refine Ex_bipush d_rm_init_191 bp_120 ?_
  refine Ex_newarrayN (a := 120) d_rm_init_193 (Or.inl ⟨rfl, rfl⟩) pw_ai rfl (by decide) ?_
  rw [IN_n hI44]
  have hI45 := IN_new hI44 (show statT[61]? = some (0, 120) from rfl)
  generalize mNew h44 (0) 120 = h45 at hI45 ⊢
  refine Ex_putR (x := (some (61))) d_rm_init_195 pf_rm_79 (Or.inr ⟨rfl, rfl, _, rfl⟩) rfl (IN_T hI45 (by decide) rfl) rfl ?_
  have hI46 := IN_put (a := 38) (j := 32) (v := 61) hI45 (by decide) (by decide)
  generalize wR h45 38 32 (some 61) = h46 at hI46 ⊢
  refine Ex_aload_n d_rm_init_198 rfl ?_
  refine Ex_bipush d_rm_init_199 bp_40 ?_
  refine Ex_newarrayN (a := 40) d_rm_init_201 (Or.inr (Or.inl ⟨rfl, rfl⟩)) pw_al rfl (by decide) ?_
  rw [IN_n hI46]
  have hI47 := IN_new hI46 (show statT[62]? = some (1, 40) from rfl)
  generalize mNew h46 (1) 40 = h47 at hI47 ⊢
  refine Ex_putR (x := (some (62))) d_rm_init_203 pf_rm_82 (Or.inr ⟨rfl, rfl, _, rfl⟩) rfl (IN_T hI47 (by decide) rfl) rfl ?_
  have hI48 := IN_put (a := 38) (j := 33) (v := 62) hI47 (by decide) (by decide)
  generalize wR h47 38 33 (some 62) = h48 at hI48 ⊢
  refine Ex_aload_n d_rm_init_206 rfl ?_
  refine Ex_bipush d_rm_init_207 bp_40 ?_
  refine Ex_newarrayN (a := 40) d_rm_init_209 (Or.inr (Or.inl ⟨rfl, rfl⟩)) pw_al rfl (by decide) ?_
  rw [IN_n hI48]
  have hI49 := IN_new hI48 (show statT[63]? = some (1, 40) from rfl)
  generalize mNew h48 (1) 40 = h49 at hI49 ⊢
  refine Ex_putR (x := (some (63))) d_rm_init_211 pf_rm_85 (Or.inr ⟨rfl, rfl, _, rfl⟩) rfl (IN_T hI49 (by decide) rfl) rfl ?_
  have hI50 := IN_put (a := 38) (j := 34) (v := 63) hI49 (by decide) (by decide)
  generalize wR h49 38 34 (some 63) = h50 at hI50 ⊢
  refine Ex_aload_n d_rm_init_214 rfl ?_
  refine Ex_bipush d_rm_init_215 bp_6 ?_
  refine Ex_newarrayN (a := 6) d_rm_init_217 (Or.inl ⟨rfl, rfl⟩) pw_ai rfl (by decide) ?_
  rw [IN_n hI50]
  have hI51 := IN_new hI50 (show statT[64]? = some (0, 6) from rfl)
  generalize mNew h50 (0) 6 = h51 at hI51 ⊢
  refine Ex_putR (x := (some (64))) d_rm_init_219 pf_rm_88 (Or.inr ⟨rfl, rfl, _, rfl⟩) rfl (IN_T hI51 (by decide) rfl) rfl ?_
  have hI52 := IN_put (a := 38) (j := 35) (v := 64) hI51 (by decide) (by decide)
  generalize wR h51 38 35 (some 64) = h52 at hI52 ⊢
  refine Ex_aload_n d_rm_init_222 rfl ?_
  refine Ex_bipush d_rm_init_223 bp_6 ?_
  refine Ex_newarrayN (a := 6) d_rm_init_225 (Or.inl ⟨rfl, rfl⟩) pw_ai rfl (by decide) ?_
  rw [IN_n hI52]
  have hI53 := IN_new hI52 (show statT[65]? = some (0, 6) from rfl)
  generalize mNew h52 (0) 6 = h53 at hI53 ⊢
  refine Ex_putR (x := (some (65))) d_rm_init_227 pf_rm_91 (Or.inr ⟨rfl, rfl, _, rfl⟩) rfl (IN_T hI53 (by decide) rfl) rfl ?_
  have hI54 := IN_put (a := 38) (j := 36) (v := 65) hI53 (by decide) (by decide)
  generalize wR h53 38 36 (some 65) = h54 at hI54 ⊢
  refine Ex_aload_n d_rm_init_230 rfl ?_
  refine Ex_sipush d_rm_init_231 sp_384 ?_
  refine Ex_newarrayN (a := 384) d_rm_init_234 (Or.inl ⟨rfl, rfl⟩) pw_ai rfl (by decide) ?_
  rw [IN_n hI54]
  have hI55 := IN_new hI54 (show statT[66]? = some (0, 384) from rfl)
  generalize mNew h54 (0) 384 = h55 at hI55 ⊢
  refine Ex_putR (x := (some (66))) d_rm_init_236 pf_rm_94 (Or.inr ⟨rfl, rfl, _, rfl⟩) rfl (IN_T hI55 (by decide) rfl) rfl ?_
  have hI56 := IN_put (a := 38) (j := 37) (v := 66) hI55 (by decide) (by decide)
  generalize wR h55 38 37 (some 66) = h56 at hI56 ⊢
  refine Ex_aload_n d_rm_init_239 rfl ?_
  refine Ex_sipush d_rm_init_240 sp_384 ?_
  refine Ex_newarrayN (a := 384) d_rm_init_243 (Or.inl ⟨rfl, rfl⟩) pw_ai rfl (by decide) ?_
  rw [IN_n hI56]
  have hI57 := IN_new hI56 (show statT[67]? = some (0, 384) from rfl)
  generalize mNew h56 (0) 384 = h57 at hI57 ⊢
  refine Ex_putR (x := (some (67))) d_rm_init_245 pf_rm_97 (Or.inr ⟨rfl, rfl, _, rfl⟩) rfl (IN_T hI57 (by decide) rfl) rfl ?_
  have hI58 := IN_put (a := 38) (j := 38) (v := 67) hI57 (by decide) (by decide)
  generalize wR h57 38 38 (some 67) = h58 at hI58 ⊢
  refine Ex_aload_n d_rm_init_248 rfl ?_
  refine Ex_sipush d_rm_init_249 sp_240 ?_
  refine Ex_newarrayN (a := 240) d_rm_init_252 (Or.inl ⟨rfl, rfl⟩) pw_ai rfl (by decide) ?_
  rw [IN_n hI58]
  have hI59 := IN_new hI58 (show statT[68]? = some (0, 240) from rfl)
  generalize mNew h58 (0) 240 = h59 at hI59 ⊢
  refine Ex_putR (x := (some (68))) d_rm_init_254 pf_rm_100 (Or.inr ⟨rfl, rfl, _, rfl⟩) rfl (IN_T hI59 (by decide) rfl) rfl ?_
  have hI60 := IN_put (a := 38) (j := 39) (v := 68) hI59 (by decide) (by decide)
  generalize wR h59 38 39 (some 68) = h60 at hI60 ⊢
  refine Ex_aload_n d_rm_init_257 rfl ?_
  refine Ex_bipush d_rm_init_258 bp_64 ?_
  refine Ex_newarrayN (a := 64) d_rm_init_260 (Or.inl ⟨rfl, rfl⟩) pw_ai rfl (by decide) ?_
  rw [IN_n hI60]
  have hI61 := IN_new hI60 (show statT[69]? = some (0, 64) from rfl)
  generalize mNew h60 (0) 64 = h61 at hI61 ⊢
  refine Ex_putR (x := (some (69))) d_rm_init_262 pf_rm_103 (Or.inr ⟨rfl, rfl, _, rfl⟩) rfl (IN_T hI61 (by decide) rfl) rfl ?_
  have hI62 := IN_put (a := 38) (j := 44) (v := 69) hI61 (by decide) (by decide)
  generalize wR h61 38 44 (some 69) = h62 at hI62 ⊢
  refine Ex_aload_n d_rm_init_265 rfl ?_
  refine Ex_bipush d_rm_init_266 bp_40 ?_
  refine Ex_newarrayN (a := 40) d_rm_init_268 (Or.inl ⟨rfl, rfl⟩) pw_ai rfl (by decide) ?_
  rw [IN_n hI62]
  have hI63 := IN_new hI62 (show statT[70]? = some (0, 40) from rfl)
  generalize mNew h62 (0) 40 = h63 at hI63 ⊢
  refine Ex_putR (x := (some (70))) d_rm_init_270 pf_rm_106 (Or.inr ⟨rfl, rfl, _, rfl⟩) rfl (IN_T hI63 (by decide) rfl) rfl ?_
  have hI64 := IN_put (a := 38) (j := 45) (v := 70) hI63 (by decide) (by decide)
  generalize wR h63 38 45 (some 70) = h64 at hI64 ⊢
  refine Ex_aload_n d_rm_init_273 rfl ?_
  refine Ex_bipush d_rm_init_274 bp_64 ?_
  refine Ex_newarrayN (a := 64) d_rm_init_276 (Or.inl ⟨rfl, rfl⟩) pw_ai rfl (by decide) ?_
  rw [IN_n hI64]
  have hI65 := IN_new hI64 (show statT[71]? = some (0, 64) from rfl)
  generalize mNew h64 (0) 64 = h65 at hI65 ⊢
  refine Ex_putR (x := (some (71))) d_rm_init_278 pf_rm_109 (Or.inr ⟨rfl, rfl, _, rfl⟩) rfl (IN_T hI65 (by decide) rfl) rfl ?_
  have hI66 := IN_put (a := 38) (j := 46) (v := 71) hI65 (by decide) (by decide)
  generalize wR h65 38 46 (some 71) = h66 at hI66 ⊢
  refine Ex_aload_n d_rm_init_281 rfl ?_
  refine Ex_bipush d_rm_init_282 bp_65 ?_
  refine Ex_newarrayN (a := 65) d_rm_init_284 (Or.inl ⟨rfl, rfl⟩) pw_ai rfl (by decide) ?_
  rw [IN_n hI66]
  have hI67 := IN_new hI66 (show statT[72]? = some (0, 65) from rfl)
  generalize mNew h66 (0) 65 = h67 at hI67 ⊢
  refine Ex_putR (x := (some (72))) d_rm_init_286 pf_rm_112 (Or.inr ⟨rfl, rfl, _, rfl⟩) rfl (IN_T hI67 (by decide) rfl) rfl ?_
  have hI68 := IN_put (a := 38) (j := 47) (v := 72) hI67 (by decide) (by decide)
  generalize wR h67 38 47 (some 72) = h68 at hI68 ⊢
  refine Ex_aload_n d_rm_init_289 rfl ?_
  refine Ex_bipush d_rm_init_290 bp_65 ?_
  refine Ex_newarrayN (a := 65) d_rm_init_292 (Or.inl ⟨rfl, rfl⟩) pw_ai rfl (by decide) ?_
  rw [IN_n hI68]
  have hI69 := IN_new hI68 (show statT[73]? = some (0, 65) from rfl)
  generalize mNew h68 (0) 65 = h69 at hI69 ⊢
  refine Ex_putR (x := (some (73))) d_rm_init_294 pf_rm_115 (Or.inr ⟨rfl, rfl, _, rfl⟩) rfl (IN_T hI69 (by decide) rfl) rfl ?_
  have hI70 := IN_put (a := 38) (j := 48) (v := 73) hI69 (by decide) (by decide)
  generalize wR h69 38 48 (some 73) = h70 at hI70 ⊢
  refine Ex_return d_rm_init_297 rfl ?_
  exact ⟨rfl, hI70⟩
theorem IN_HT {h : mj_H} (hI : IN 74 [(38, 48, 73), (38, 47, 72), (38, 46, 71), (38, 45, 70), (38, 44, 69), (38, 39, 68), (38, 38, 67), (38, 37, 66), (38, 36, 65), (38, 35, 64), (38, 34, 63), (38, 33, 62), (38, 32, 61), (38, 31, 60), (38, 30, 59), (38, 28, 58), (38, 27, 57), (38, 26, 56), (38, 23, 55), (38, 22, 54), (38, 21, 53), (38, 20, 52), (38, 15, 51), (38, 14, 50), (38, 13, 49), (38, 11, 48), (38, 10, 47), (38, 8, 46), (38, 7, 45), (38, 6, 44), (38, 4, 43), (38, 3, 42), (38, 2, 41), (38, 1, 40), (38, 0, 39), (0, 11, 37), (0, 9, 36), (0, 8, 35), (0, 7, 33), (33, 2, 34), (0, 6, 31), (31, 2, 32), (0, 5, 29), (29, 2, 30), (0, 4, 25), (25, 4, 28), (25, 3, 27), (25, 2, 26), (0, 2, 24), (0, 1, 21), (21, 2, 23), (21, 1, 22), (0, 14, 18), (18, 1, 1), (18, 0, 7), (18, 3, 20), (18, 2, 19), (0, 13, 7), (0, 0, 1), (7, 0, 8), (7, 10, 17), (7, 9, 16), (7, 8, 15), (7, 7, 14), (7, 6, 13), (7, 5, 12), (7, 4, 11), (8, 0, 1), (8, 3, 10), (8, 2, 9), (1, 5, 6), (1, 4, 5), (1, 3, 4), (1, 2, 3), (1, 1, 2)] h) : HT h := by
  refine ⟨fun k t ht => ?_, fun q hq => ?_⟩
  · have : k < 74 := by
      have := (List.getElem?_eq_some_iff.mp ht).1
      rw [statT_l] at this
      exact this
    exact IN_T hI this ht
  · have hs : ∀ q ∈ statR, q ∈ [(38, 48, 73), (38, 47, 72), (38, 46, 71), (38, 45, 70), (38, 44, 69), (38, 39, 68), (38, 38, 67), (38, 37, 66), (38, 36, 65), (38, 35, 64), (38, 34, 63), (38, 33, 62), (38, 32, 61), (38, 31, 60), (38, 30, 59), (38, 28, 58), (38, 27, 57), (38, 26, 56), (38, 23, 55), (38, 22, 54), (38, 21, 53), (38, 20, 52), (38, 15, 51), (38, 14, 50), (38, 13, 49), (38, 11, 48), (38, 10, 47), (38, 8, 46), (38, 7, 45), (38, 6, 44), (38, 4, 43), (38, 3, 42), (38, 2, 41), (38, 1, 40), (38, 0, 39), (0, 11, 37), (0, 9, 36), (0, 8, 35), (0, 7, 33), (33, 2, 34), (0, 6, 31), (31, 2, 32), (0, 5, 29), (29, 2, 30), (0, 4, 25), (25, 4, 28), (25, 3, 27), (25, 2, 26), (0, 2, 24), (0, 1, 21), (21, 2, 23), (21, 1, 22), (0, 14, 18), (18, 1, 1), (18, 0, 7), (18, 3, 20), (18, 2, 19), (0, 13, 7), (0, 0, 1), (7, 0, 8), (7, 10, 17), (7, 9, 16), (7, 8, 15), (7, 7, 14), (7, 6, 13), (7, 5, 12), (7, 4, 11), (8, 0, 1), (8, 3, 10), (8, 2, 9), (1, 5, 6), (1, 4, 5), (1, 3, 4), (1, 2, 3), (1, 1, 2)] := by decide +kernel
    exact (hI.2.2.2.1 q (hs q hq)).2
abbrev lR : List (Nat × Nat × Nat) := [(38, 48, 73), (38, 47, 72), (38, 46, 71), (38, 45, 70), (38, 44, 69), (38, 39, 68), (38, 38, 67), (38, 37, 66), (38, 36, 65), (38, 35, 64), (38, 34, 63), (38, 33, 62), (38, 32, 61), (38, 31, 60), (38, 30, 59), (38, 28, 58), (38, 27, 57), (38, 26, 56), (38, 23, 55), (38, 22, 54), (38, 21, 53), (38, 20, 52), (38, 15, 51), (38, 14, 50), (38, 13, 49), (38, 11, 48), (38, 10, 47), (38, 8, 46), (38, 7, 45), (38, 6, 44), (38, 4, 43), (38, 3, 42), (38, 2, 41), (38, 1, 40), (38, 0, 39), (0, 11, 37), (0, 9, 36), (0, 8, 35), (0, 7, 33), (33, 2, 34), (0, 6, 31), (31, 2, 32), (0, 5, 29), (29, 2, 30), (0, 4, 25), (25, 4, 28), (25, 3, 27), (25, 2, 26), (0, 2, 24), (0, 1, 21), (21, 2, 23), (21, 1, 22), (0, 14, 18), (18, 1, 1), (18, 0, 7), (18, 3, 20), (18, 2, 19), (0, 13, 7), (0, 0, 1), (7, 0, 8), (7, 10, 17), (7, 9, 16), (7, 8, 15), (7, 7, 14), (7, 6, 13), (7, 5, 12), (7, 4, 11), (8, 0, 1), (8, 3, 10), (8, 2, 9), (1, 5, 6), (1, 4, 5), (1, 3, 4), (1, 2, 3), (1, 1, 2)]
