/-! The reference: cells of patterns, keep, undo, takeRow. -/
theorem Pu_tt {h : mj_H} {c : Bool} (hc : c = true) : Pu (.int (bI c)) h (some (.int 1)) h := ⟨by rw [hc]; rfl, rfl⟩
theorem Pu_ff {h : mj_H} {c : Bool} (hc : c = false) : Pu (.int (bI c)) h (some (.int 0)) h := ⟨by rw [hc]; rfl, rfl⟩
theorem rm_rowOf_p {S : mj_S} {h : mj_H} (hs : HT h) {P : SP} (hP : PaM P h) {n : Nat} (hQ : PO n P) {p i : Nat} (hp : p < pNp P) (hi : i < (pPat P p).length) : Cl S rm_rowOf [.ref 38, .int (nI p), .int (nI i)] h (Pu (.int (nI ((pPat P p).getD i 0))) h) := by
  have h1 := hQ.2.2.1
  have h2 := (hQ.2.2.2.1 p hp).1
  rw [← (hP.2 p hp).2 i hi]
  exact rm_rowOf_s hs (by omega) (by omega)
theorem cAt_some {P : SP} {p : Nat} {i j : Int} {c : Tl} (h : cAt P p i j = some c) : 0 ≤ i ∧ i < (pPat P p).length ∧ pO P ((pPat P p).getD i.toNat 0) ≤ j ∧ j < pO P ((pPat P p).getD i.toNat 0) + pL P ((pPat P p).getD i.toNat 0) ∧ c = pC P ((pPat P p).getD i.toNat 0) (j - pO P ((pPat P p).getD i.toNat 0)).toNat := by
  unfold cAt at h
  split at h
  · rename_i h1
    unfold rAt at h
    split at h
    · rename_i h2
      cases h
      exact ⟨h1.1, h1.2, h2.1, h2.2, rfl⟩
    · cases h
  · cases h
def cpF (f g : Nat → Int32) (a b l : Nat) : Nat → Int32 := fun x => if a ≤ x ∧ x < a + l then g (b + (x - a)) else f x
theorem cpF_0 (f g : Nat → Int32) (a b : Nat) : cpF f g a b 0 = f := by
  funext x
  unfold cpF
  rw [if_neg (by omega)]
theorem cpF_s (f g : Nat → Int32) (a b l : Nat) : va_up (cpF f g a b l) (a + l) (g (b + l)) = cpF f g a b (l + 1) := by
  funext x
  unfold va_up
  by_cases h1 : x = a + l
  · rw [if_pos h1]
    unfold cpF
    rw [if_pos (by omega)]
    congr 1
    omega
  · rw [if_neg h1]
    unfold cpF
    by_cases h2 : a ≤ x ∧ x < a + l
    · rw [if_pos h2, if_pos (by omega)]
    · rw [if_neg h2, if_neg (by omega)]
/-- moved up by one behind k; moved down by one between i and k -/
def upF (f : Nat → Int32) (a n k : Nat) : Nat → Int32 := fun x => if a + k < x ∧ x ≤ a + n then f (x - 1) else f x
def dnF (f : Nat → Int32) (a i k : Nat) : Nat → Int32 := fun x => if a + i ≤ x ∧ x < a + k then f (x + 1) else f x
theorem upF_n (f : Nat → Int32) (a n : Nat) : upF f a n n = f := by
  funext x
  unfold upF
  rw [if_neg (by omega)]
theorem upF_s (f : Nat → Int32) (a n k : Nat) (hk : k < n) : va_up (upF f a n (k + 1)) (a + (k + 1)) (upF f a n (k + 1) (a + k)) = upF f a n k := by
  funext x
  unfold va_up
  by_cases h1 : x = a + (k + 1)
  · rw [if_pos h1]
    unfold upF
    rw [if_neg (by omega), if_pos (by omega)]
    congr 1
    omega
  · rw [if_neg h1]
    unfold upF
    by_cases h2 : a + (k + 1) < x ∧ x ≤ a + n
    · rw [if_pos h2, if_pos (by omega)]
    · rw [if_neg h2, if_neg (by omega)]
theorem dnF_0 (f : Nat → Int32) (a i : Nat) : dnF f a i i = f := by
  funext x
  unfold dnF
  rw [if_neg (by omega)]
theorem dnF_s (f : Nat → Int32) (a i k : Nat) (hk : i ≤ k) : va_up (dnF f a i k) (a + k) (dnF f a i k (a + (k + 1))) = dnF f a i (k + 1) := by
  funext x
  unfold va_up
  by_cases h1 : x = a + k
  · rw [if_pos h1]
    unfold dnF
    rw [if_neg (by omega), if_pos (by omega)]
    congr 1
    omega
  · rw [if_neg h1]
    unfold dnF
    by_cases h2 : a + i ≤ x ∧ x < a + k
    · rw [if_pos h2, if_pos (by omega)]
    · rw [if_neg h2, if_neg (by omega)]
def insL (l : List Nat) (i x : Nat) : List Nat := l.take i ++ x :: l.drop i
def delL (l : List Nat) (i : Nat) : List Nat := l.take i ++ l.drop (i + 1)
theorem insL_len {l : List Nat} {i x : Nat} (h : i ≤ l.length) : (insL l i x).length = l.length + 1 := by
  simp [insL]; omega
theorem delL_len {l : List Nat} {i : Nat} (h : i < l.length) : (delL l i).length = l.length - 1 := by
  simp [delL]; omega
theorem insL_get {l : List Nat} {i x k : Nat} (h : i ≤ l.length) : (insL l i x).getD k 0 = if k < i then l.getD k 0 else if k = i then x else l.getD (k - 1) 0 := by
  unfold insL
  rw [List.getD_eq_getElem?_getD]
  by_cases h1 : k < i
  · rw [if_pos h1, List.getElem?_append_left (by simp; omega), List.getElem?_take_of_lt h1, ← List.getD_eq_getElem?_getD]
  · rw [if_neg h1, List.getElem?_append_right (by simp; omega)]
    simp only [List.length_take, Nat.min_eq_left h]
    by_cases h2 : k = i
    · rw [if_pos h2, h2]; simp
    · rw [if_neg h2, show k - i = (k - 1 - i) + 1 by omega, List.getElem?_cons_succ, List.getElem?_drop, ← List.getD_eq_getElem?_getD]
      congr 1
      omega
theorem delL_get {l : List Nat} {i k : Nat} (h : i < l.length) : (delL l i).getD k 0 = if k < i then l.getD k 0 else l.getD (k + 1) 0 := by
  unfold delL
  rw [List.getD_eq_getElem?_getD]
  by_cases h1 : k < i
  · rw [if_pos h1, List.getElem?_append_left (by simp; omega), List.getElem?_take_of_lt h1, ← List.getD_eq_getElem?_getD]
  · rw [if_neg h1, List.getElem?_append_right (by simp; omega)]
    simp only [List.length_take, Nat.min_eq_left (Nat.le_of_lt h)]
    rw [List.getElem?_drop, ← List.getD_eq_getElem?_getD]
    congr 1
    omega
theorem insL_mem {l : List Nat} {i x y : Nat} (h : y ∈ insL l i x) : y = x ∨ y ∈ l := by
  unfold insL at h
  rcases List.mem_append.mp h with h | h
  · exact Or.inr (List.mem_of_mem_take h)
  · rcases List.mem_cons.mp h with h | h
    · exact Or.inl h
    · exact Or.inr (List.mem_of_mem_drop h)
theorem delL_mem {l : List Nat} {i y : Nat} (h : y ∈ delL l i) : y ∈ l := by
  unfold delL at h
  rcases List.mem_append.mp h with h | h
  · exact List.mem_of_mem_take h
  · exact List.mem_of_mem_drop h
theorem rm_has_s {S : mj_S} {h : mj_H} (hs : HT h) {P : SP} (hP : PM P h) {n : Nat} (hQ : PO n P) {p : Nat} (hp : p < pNp P) {i j : Int} (hi : -9223372036854775808 ≤ i ∧ i < 9223372036854775808) (hj : -9223372036854775808 ≤ j ∧ j < 9223372036854775808) : Cl S rm_has [.ref 38, .int (nI (p)), .long (JL (i)), .long (JL (j))] h (Pu (.int (bI (cAt P p i j).isSome)) h) := by
  show Ex S rm_has 0 [some (.ref 38), some (.int (nI (p))), some (.long (JL (i))), none, some (.long (JL (j))), none, none] [] h _
  have hlen := (hQ.2.2.2.1 p hp).1
  have hnp := hQ.2.2.1
  have hmd := hQ.1
  refine Ex_lload_n d_rm_has_0 rfl ?_
  refine Ex_lconst d_rm_has_1 lc_0 ?_
  refine Ex_lcmp d_rm_has_2 ?_
  refine Ex_if_ltLZ (i) (0) 18 d_rm_has_3 rfl rfl (by decide) (by omega) (by omega) (fun hc3 => ?_) (fun hc3 => ?_)
  · refine Ex_iconst d_rm_has_18 ic_0 ?_
    refine Ex_zreturn d_rm_has_19 rfl (by decide) ?_
    first | (exact Pu_ff (by unfold cAt; rw [if_neg (by omega)]; rfl)) | (exact Pu_ff (by unfold cAt rAt; rw [if_pos (by omega), if_neg (by omega)]; rfl))
  · refine Ex_lload_n d_rm_has_6 rfl ?_
    refine Ex_aload_n d_rm_has_7 rfl ?_
    refine Ex_getR d_rm_has_8 pf_rm_40 rfl (t_38 hs) (r_38_11 hs) ?_
    refine Ex_iload_n d_rm_has_11 rfl ?_
    refine Ex_ialoadN (a := p) d_rm_has_12 (t_48 hs) rfl (by omega) (by decide) (hP.2.1.2 p hp).1 ?_
    refine Ex_i2lZ ((((pPat P p).length : Nat) : Int)) d_rm_has_13 (nIJ _) (by omega) ?_
    refine Ex_lcmp d_rm_has_14 ?_
    refine Ex_if_ltLZ (i) ((((pPat P p).length : Nat) : Int)) 20 d_rm_has_15 rfl rfl rfl (by omega) (by omega) (fun hc15 => ?_) (fun hc15 => ?_)
    · refine Ex_aload_n d_rm_has_20 rfl ?_
      refine Ex_iload_n d_rm_has_21 rfl ?_
      refine Ex_lload_n d_rm_has_22 rfl ?_
      refine Ex_l2iZ (i) d_rm_has_23 rfl (by omega) ?_
      rw [show ((J (i)) : Int32) = (nI (i.toNat)) from (J_pos (by omega))]
      refine Ex_pV2 d_rm_has_24 pk_rm_has_175 (t_38 hs) (rm_rowOf_p hs hP.2.1 hQ hp (by omega)) ?_
      refine Ex_istore [some (.ref 38), some (.int (nI (p))), some (.long (JL (i))), none, some (.long (JL (j))), none, some (.int (nI ((pPat P p).getD i.toNat 0)))] d_rm_has_27 (Nat.le_of_ble_eq_true rfl) rfl ?_
      have hr := PO_row hQ hp (i := i.toNat) (by omega)
      have hro := hQ.2.1 _ hr
      refine Ex_lload d_rm_has_29 rfl ?_
      refine Ex_aload_n d_rm_has_31 rfl ?_
      refine Ex_getR d_rm_has_32 pf_rm_30 rfl (t_38 hs) (r_38_7 hs) ?_
      refine Ex_iload d_rm_has_35 rfl ?_
      refine Ex_ialoadN (a := (pPat P p).getD i.toNat 0) d_rm_has_37 (t_45 hs) rfl (by omega) (by decide) (hP.1.2 _ hr).2.1 ?_
      refine Ex_i2lZ (pO P ((pPat P p).getD i.toNat 0)) d_rm_has_38 rfl (by omega) ?_
      refine Ex_lcmp d_rm_has_39 ?_
      refine Ex_if_ltLZ (j) (pO P ((pPat P p).getD i.toNat 0)) 70 d_rm_has_40 rfl rfl rfl (by omega) (by omega) (fun hc40 => ?_) (fun hc40 => ?_)
      · refine Ex_iconst d_rm_has_70 ic_0 ?_
        refine Ex_zreturn d_rm_has_71 rfl (by decide) ?_
        first | (exact Pu_ff (by unfold cAt; rw [if_neg (by omega)]; rfl)) | (exact Pu_ff (by unfold cAt rAt; rw [if_pos (by omega), if_neg (by omega)]; rfl))
      · refine Ex_lload d_rm_has_43 rfl ?_
        refine Ex_aload_n d_rm_has_45 rfl ?_
        refine Ex_getR d_rm_has_46 pf_rm_30 rfl (t_38 hs) (r_38_7 hs) ?_
        refine Ex_iload d_rm_has_49 rfl ?_
        refine Ex_ialoadN (a := (pPat P p).getD i.toNat 0) d_rm_has_51 (t_45 hs) rfl (by omega) (by decide) (hP.1.2 _ hr).2.1 ?_
        refine Ex_i2lZ (pO P ((pPat P p).getD i.toNat 0)) d_rm_has_52 rfl (by omega) ?_
        refine Ex_aload_n d_rm_has_53 rfl ?_
        refine Ex_getR d_rm_has_54 pf_rm_27 rfl (t_38 hs) (r_38_6 hs) ?_
        refine Ex_iload d_rm_has_57 rfl ?_
        refine Ex_ialoadN (a := (pPat P p).getD i.toNat 0) d_rm_has_59 (t_44 hs) rfl (by omega) (by decide) (hP.1.2 _ hr).1 ?_
        refine Ex_i2lZ (((pL P ((pPat P p).getD i.toNat 0) : Nat) : Int)) d_rm_has_60 (nIJ _) (by omega) ?_
        refine Ex_laddZ (pO P ((pPat P p).getD i.toNat 0)) (((pL P ((pPat P p).getD i.toNat 0) : Nat) : Int)) d_rm_has_61 rfl rfl ?_
        refine Ex_lcmp d_rm_has_62 ?_
        refine Ex_if_geLZ (j) ((pO P ((pPat P p).getD i.toNat 0)) + (((pL P ((pPat P p).getD i.toNat 0) : Nat) : Int))) 70 d_rm_has_63 rfl rfl rfl (by omega) (by omega) (fun hc63 => ?_) (fun hc63 => ?_)
        · refine Ex_iconst d_rm_has_70 ic_0 ?_
          refine Ex_zreturn d_rm_has_71 rfl (by decide) ?_
          first | (exact Pu_ff (by unfold cAt; rw [if_neg (by omega)]; rfl)) | (exact Pu_ff (by unfold cAt rAt; rw [if_pos (by omega), if_neg (by omega)]; rfl))
        · refine Ex_iconst d_rm_has_66 ic_1 ?_
          refine Ex_goto 71 d_rm_has_67 rfl ?_
          refine Ex_zreturn d_rm_has_71 rfl (by decide) ?_
          first | (exact Pu_tt (by unfold cAt rAt; rw [if_pos (by omega), if_pos (by omega)]; rfl))
    · refine Ex_iconst d_rm_has_18 ic_0 ?_
      refine Ex_zreturn d_rm_has_19 rfl (by decide) ?_
      first | (exact Pu_ff (by unfold cAt; rw [if_neg (by omega)]; rfl)) | (exact Pu_ff (by unfold cAt rAt; rw [if_pos (by omega), if_neg (by omega)]; rfl))
theorem rm_placeOf_s {S : mj_S} {h : mj_H} (hs : HT h) {P : SP} (hP : PM P h) {n : Nat} (hQ : PO n P) {p i : Nat} (hp : p < pNp P) (hi : i < (pPat P p).length) {j : Int} (hj : pO P ((pPat P p).getD i 0) ≤ j ∧ j < pO P ((pPat P p).getD i 0) + pL P ((pPat P p).getD i 0)) : Cl S rm_placeOf [.ref 38, .int (nI (p)), .int (nI (i)), .int (J (j))] h (Pu (.int (nI (60 * ((pPat P p).getD i 0) + (j - pO P ((pPat P p).getD i 0)).toNat))) h) := by
  show Ex S rm_placeOf 0 [some (.ref 38), some (.int (nI (p))), some (.int (nI (i))), some (.int (J (j)))] [] h _
  have hlen := (hQ.2.2.2.1 p hp).1
  have hnp := hQ.2.2.1
  have hmd := hQ.1
  have hr := PO_row hQ hp (i := i) (by omega)
  have hro := hQ.2.1 _ hr
  refine Ex_bipush d_rm_placeOf_0 bp_60 ?_
  refine Ex_aload_n d_rm_placeOf_2 rfl ?_
  refine Ex_iload_n d_rm_placeOf_3 rfl ?_
  refine Ex_iload_n d_rm_placeOf_4 rfl ?_
  refine Ex_pV2 d_rm_placeOf_5 pk_rm_placeOf_175 (t_38 hs) (rm_rowOf_p hs hP.2.1 hQ hp (by omega)) ?_
  refine Ex_imulN (60) ((pPat P p).getD i 0) d_rm_placeOf_8 rfl rfl ?_
  refine Ex_iload_n d_rm_placeOf_9 rfl ?_
  refine Ex_iaddZ (((60 * ((pPat P p).getD i 0) : Nat) : Int)) (j) d_rm_placeOf_10 (nIJ _) rfl ?_
  refine Ex_aload_n d_rm_placeOf_11 rfl ?_
  refine Ex_getR d_rm_placeOf_12 pf_rm_30 rfl (t_38 hs) (r_38_7 hs) ?_
  refine Ex_aload_n d_rm_placeOf_15 rfl ?_
  refine Ex_iload_n d_rm_placeOf_16 rfl ?_
  refine Ex_iload_n d_rm_placeOf_17 rfl ?_
  refine Ex_pV2 d_rm_placeOf_18 pk_rm_placeOf_175 (t_38 hs) (rm_rowOf_p hs hP.2.1 hQ hp (by omega)) ?_
  refine Ex_ialoadN (a := (pPat P p).getD i 0) d_rm_placeOf_21 (t_45 hs) rfl (by omega) (by decide) (hP.1.2 _ hr).2.1 ?_
  refine Ex_isubZ ((((60 * ((pPat P p).getD i 0) : Nat) : Int)) + j) (pO P ((pPat P p).getD i 0)) d_rm_placeOf_22 rfl rfl ?_
  refine Ex_ireturn d_rm_placeOf_23 rfl ?_
  exact Pu_i (by rw [nIJ]; exact congrArg J (by omega))
theorem rm_cellAt_n {S : mj_S} {h : mj_H} (hs : HT h) {P : SP} (hP : PM P h) {n : Nat} (hQ : PO n P) {p i : Nat} (hp : p < pNp P) (hi : i < (pPat P p).length) {j : Int} (hj : pO P ((pPat P p).getD i 0) ≤ j ∧ j < pO P ((pPat P p).getD i 0) + pL P ((pPat P p).getD i 0)) : Cl S rm_cellAt [.ref 38, .int (nI (p)), .int (nI (i)), .int (J (j))] h (Pu (.int (eM (pC P ((pPat P p).getD i 0) (j - pO P ((pPat P p).getD i 0)).toNat))) h) := by
  show Ex S rm_cellAt 0 [some (.ref 38), some (.int (nI (p))), some (.int (nI (i))), some (.int (J (j)))] [] h _
  have hlen := (hQ.2.2.2.1 p hp).1
  have hnp := hQ.2.2.1
  have hmd := hQ.1
  have hr := PO_row hQ hp (i := i) (by omega)
  have hro := hQ.2.1 _ hr
  refine Ex_aload_n d_rm_cellAt_0 rfl ?_
  refine Ex_getR d_rm_cellAt_1 pf_rm_34 rfl (t_38 hs) (r_38_8 hs) ?_
  refine Ex_aload_n d_rm_cellAt_4 rfl ?_
  refine Ex_iload_n d_rm_cellAt_5 rfl ?_
  refine Ex_iload_n d_rm_cellAt_6 rfl ?_
  refine Ex_iload_n d_rm_cellAt_7 rfl ?_
  refine Ex_pV3 d_rm_cellAt_8 pk_rm_cellAt_178 (t_38 hs) (rm_placeOf_s hs hP hQ hp hi hj) ?_
  refine Ex_ialoadN (a := 60 * ((pPat P p).getD i 0) + (j - pO P ((pPat P p).getD i 0)).toNat) d_rm_cellAt_11 (t_46 hs) rfl (by omega) (by decide) ((hP.1.2 _ hr).2.2 _ (by omega)) ?_
  refine Ex_ireturn d_rm_cellAt_12 rfl ?_
  exact ⟨rfl, rfl⟩
theorem rm_cellAt_s {S : mj_S} {h : mj_H} (hs : HT h) {P : SP} (hP : PM P h) {n : Nat} (hQ : PO n P) {p : Nat} (hp : p < pNp P) {i j : Int} {c : Tl} (hc : cAt P p i j = some c) : Cl S rm_cellAt [.ref 38, .int (nI p), .int (J i), .int (J j)] h (Pu (.int (eM c)) h) := by
  obtain ⟨h1, h2, h3, h4, rfl⟩ := cAt_some hc
  rw [J_pos h1]
  exact rm_cellAt_n hs hP hQ hp (by omega) ⟨h3, h4⟩
theorem rm_keep_L {S : mj_S} {Q : Option Value → mj_H → Prop} {h : mj_H} (hs : HT h) {P : SP} (hPa : PaM P h) {n : Nat} (hQ : PO n P) {p : Nat} (hp : p < pNp P) {ua : Nat} (hua : ua < 40) (hu : mI h 38 17 = nI ua)
    (kx : Ex S rm_keep 63 [some (.ref 38), some (.int (nI (p))), some (.int (nI ((pPat P p).length)))] [] (wA (wI (wI h 49 ua (nI p)) 50 ua (nI (pPat P p).length)) 51 (cpF (mI (wI (wI h 49 ua (nI p)) 50 ua (nI (pPat P p).length)) 51) (mI (wI (wI h 49 ua (nI p)) 50 ua (nI (pPat P p).length)) 47) (60 * ua) (60 * p) ((pPat P p).length))) Q) : ∀ d k : Nat, k + d = (pPat P p).length → Ex S rm_keep 27 [some (.ref 38), some (.int (nI (p))), some (.int (nI (k)))] [] (wA (wI (wI h 49 ua (nI p)) 50 ua (nI (pPat P p).length)) 51 (cpF (mI (wI (wI h 49 ua (nI p)) 50 ua (nI (pPat P p).length)) 51) (mI (wI (wI h 49 ua (nI p)) 50 ua (nI (pPat P p).length)) 47) (60 * ua) (60 * p) (k))) Q := by
  have hlen := (hQ.2.2.2.1 p hp).1
  have hnp := hQ.2.2.1
  intro d
  induction d with
  | zero =>
    intro k hk
    obtain rfl : k = (pPat P p).length := by omega
    refine Ex_iload_n d_rm_keep_27 rfl ?_
    refine Ex_aload_n d_rm_keep_28 rfl ?_
    refine Ex_getR d_rm_keep_29 pf_rm_40 rfl (t_38 hs) (r_38_11 hs) ?_
    refine Ex_iload_n d_rm_keep_32 rfl ?_
    refine Ex_ialoadN (a := p) d_rm_keep_33 (t_48 hs) rfl (by omega) (by decide) (hPa.2 p hp).1 ?_
    refine Ex_icmp_geN ((pPat P p).length) ((pPat P p).length) 63 d_rm_keep_34 rfl rfl rfl (by omega) (by omega) (fun hc34 => ?_) (fun hc34 => ?_)
    · exact kx
    · exfalso; omega
  | succ d ih =>
    intro k hk
    refine Ex_iload_n d_rm_keep_27 rfl ?_
    refine Ex_aload_n d_rm_keep_28 rfl ?_
    refine Ex_getR d_rm_keep_29 pf_rm_40 rfl (t_38 hs) (r_38_11 hs) ?_
    refine Ex_iload_n d_rm_keep_32 rfl ?_
    refine Ex_ialoadN (a := p) d_rm_keep_33 (t_48 hs) rfl (by omega) (by decide) (hPa.2 p hp).1 ?_
    refine Ex_icmp_geN (k) ((pPat P p).length) 63 d_rm_keep_34 rfl rfl rfl (by omega) (by omega) (fun hc34 => ?_) (fun hc34 => ?_)
    · exfalso; omega
    · refine Ex_aload_n d_rm_keep_37 rfl ?_
      refine Ex_getR d_rm_keep_38 pf_rm_49 rfl (t_38 hs) (r_38_15 hs) ?_
      refine Ex_bipush d_rm_keep_41 bp_60 ?_
      refine Ex_aload_n d_rm_keep_43 rfl ?_
      refine Ex_getIE d_rm_keep_44 pf_rm_181 rfl (t_38 hs) hu ?_
      refine Ex_imulN (60) (ua) d_rm_keep_47 rfl rfl ?_
      refine Ex_iload_n d_rm_keep_48 rfl ?_
      refine Ex_iaddN (60 * ua) (k) d_rm_keep_49 rfl rfl ?_
      refine Ex_aload_n d_rm_keep_50 rfl ?_
      refine Ex_iload_n d_rm_keep_51 rfl ?_
      refine Ex_iload_n d_rm_keep_52 rfl ?_
      refine Ex_pV2 d_rm_keep_53 pk_rm_keep_175 (t_38 hs) (rm_rowOf_s (h := (wA (wI (wI h 49 ua (nI p)) 50 ua (nI (pPat P p).length)) 51 (cpF (mI (wI (wI h 49 ua (nI p)) 50 ua (nI (pPat P p).length)) 51) (mI (wI (wI h 49 ua (nI p)) 50 ua (nI (pPat P p).length)) 47) (60 * ua) (60 * p) (k)))) (p := p) (i := k) hs (by omega) (by omega)) ?_
      refine Ex_iastoreN (a := (60 * ua) + k) d_rm_keep_56 (t_51 hs) rfl (by omega) (by decide) ?_
      refine Ex_iincN (k) 1 [some (.ref 38), some (.int (nI (p))), some (.int (nI (k + 1)))] d_rm_keep_57 rfl rfl rfl rfl ?_
      refine Ex_goto 27 d_rm_keep_60 rfl ?_
      rw [wI_wA]
      refine (cpF_s (mI (wI (wI h 49 ua (nI p)) 50 ua (nI (pPat P p).length)) 51) (mI (wI (wI h 49 ua (nI p)) 50 ua (nI (pPat P p).length)) 47) (60 * ua) (60 * p) k) ▸ ih (k + 1) (by omega)
theorem rm_keep_s {S : mj_S} {h : mj_H} (hs : HT h) {P : SP} (hP : PM P h) {n : Nat} (hQ : PO n P) {p : Nat} (hp : p < pNp P) : Cl S rm_keep [.ref 38, .int (nI (p))] h (fun r h' => r = none ∧ HiM (keepP P p) h' ∧ Fr WHi h h') := by
  show Ex S rm_keep 0 [some (.ref 38), some (.int (nI (p))), none] [] h _
  obtain ⟨hl0, ua, hu, hr⟩ := hP.2.2
  have hua := hr.1
  have hlen := (hQ.2.2.2.1 p hp).1
  have hnp := hQ.2.2.1
  have hh40 := hQ.2.2.2.2.1
  refine Ex_aload_n d_rm_keep_0 rfl ?_
  refine Ex_getR d_rm_keep_1 pf_rm_43 rfl (t_38 hs) (r_38_13 hs) ?_
  refine Ex_aload_n d_rm_keep_4 rfl ?_
  refine Ex_getIE d_rm_keep_5 pf_rm_181 rfl (t_38 hs) hu ?_
  refine Ex_iload_n d_rm_keep_8 rfl ?_
  refine Ex_iastoreN (a := ua) d_rm_keep_9 (t_49 hs) rfl (by omega) (by decide) ?_
  refine Ex_aload_n d_rm_keep_10 rfl ?_
  refine Ex_getR d_rm_keep_11 pf_rm_46 rfl (t_38 hs) (r_38_14 hs) ?_
  refine Ex_aload_n d_rm_keep_14 rfl ?_
  refine Ex_getIE d_rm_keep_15 pf_rm_181 rfl (t_38 hs) hu ?_
  refine Ex_aload_n d_rm_keep_18 rfl ?_
  refine Ex_getR d_rm_keep_19 pf_rm_40 rfl (t_38 hs) (r_38_11 hs) ?_
  refine Ex_iload_n d_rm_keep_22 rfl ?_
  refine Ex_ialoadN (a := p) d_rm_keep_23 (t_48 hs) rfl (by omega) (by decide) (hP.2.1.2 p hp).1 ?_
  refine Ex_iastoreN (a := ua) d_rm_keep_24 (t_50 hs) rfl (by omega) (by decide) ?_
  refine Ex_iconst d_rm_keep_25 ic_0 ?_
  refine Ex_istore_n [some (.ref 38), some (.int (nI (p))), some (.int (0))] d_rm_keep_26 (Nat.le_of_ble_eq_true rfl) rfl ?_
  have hz : (wA (wI (wI h 49 ua (nI p)) 50 ua (nI (pPat P p).length)) 51 (cpF (mI (wI (wI h 49 ua (nI p)) 50 ua (nI (pPat P p).length)) 51) (mI (wI (wI h 49 ua (nI p)) 50 ua (nI (pPat P p).length)) 47) (60 * ua) (60 * p) (0))) = (wI (wI h 49 ua (nI p)) 50 ua (nI (pPat P p).length)) := by rw [cpF_0, wA_self]
  rw [← hz]
  refine rm_keep_L hs hP.2.1 hQ hp hua hu ?_ (pPat P p).length 0 (by omega)
  refine Ex_aload_n d_rm_keep_63 rfl ?_
  refine Ex_aload_n d_rm_keep_64 rfl ?_
  refine Ex_getIE d_rm_keep_65 pf_rm_181 rfl (t_38 hs) hu ?_
  refine Ex_iconst d_rm_keep_68 ic_1 ?_
  refine Ex_iaddN (ua) (1) d_rm_keep_69 rfl rfl ?_
  refine Ex_bipush d_rm_keep_70 bp_40 ?_
  refine Ex_iremN (ua + 1) (40) d_rm_keep_72 rfl rfl (by omega) (by omega) ?_
  refine Ex_putI d_rm_keep_73 pf_rm_181 (Or.inl rfl) (t_38 hs) (Or.inl rfl) ?_
  refine Ex_aload_n d_rm_keep_76 rfl ?_
  refine Ex_aload_n d_rm_keep_77 rfl ?_
  refine Ex_getIE d_rm_keep_78 pf_rm_184 rfl (t_38 hs) hP.2.2.1 ?_
  refine Ex_bipush d_rm_keep_81 bp_40 ?_
  refine Ex_icmp_geN ((pHi P).length) (40) 95 d_rm_keep_83 rfl rfl rfl (by omega) (by omega) (fun hc83 => ?_) (fun hc83 => ?_)
  · refine Ex_bipush d_rm_keep_95 bp_40 ?_
    refine Ex_putI d_rm_keep_97 pf_rm_184 (Or.inl rfl) (t_38 hs) (Or.inl rfl) ?_
    refine Ex_return d_rm_keep_100 rfl ?_
    refine ⟨rfl, ?_, ?_⟩
    · refine ⟨?_, (ua + 1) % 40, rfl, ?_⟩
      · show _ = nI (((p, pPat P p) :: pHi P).take 40).length
        rw [List.length_take, List.length_cons]
        first | exact congrArg nI (by omega) | exact (show nI 40 = nI _ from congrArg nI (by omega))
      · refine ring_push hr hQ.2.2.2.2.1 hlen ⟨by simp [mI_wI, mI_wA], fun x hx => by simp [mI_wI, mI_wA, hx]⟩ ⟨by simp [mI_wI, mI_wA], fun x hx => by simp [mI_wI, mI_wA, hx]⟩ ⟨fun i hi => ?_, fun x i hx hi => ?_⟩ (fun q hq => (hQ.2.2.2.2.2 q hq).2.1)
        · show cpF (mI h 51) (mI h 47) (60 * ua) (60 * p) (pPat P p).length (60 * ua + i) = _
          unfold cpF
          have hi : i < (pPat P p).length := hi
          rw [if_pos (by omega), show 60 * p + (60 * ua + i - 60 * ua) = 60 * p + i by omega]
          exact (hP.2.1.2 p hp).2 i hi
        · show cpF (mI h 51) (mI h 47) (60 * ua) (60 * p) (pPat P p).length (60 * x + i) = _
          unfold cpF
          rw [if_neg (by omega)]
    · refine Fr.sI (Fr.sI (Fr.sA (Fr.sI (Fr.sI Fr.rf ?_) ?_) ?_) ?_) ?_
      · unfold WHi; omega
      · unfold WHi; omega
      · intro k hk; exact absurd (show WHi 51 k by unfold WHi; omega) hk
      · unfold WHi; omega
      · unfold WHi; omega
  · refine Ex_aload_n d_rm_keep_86 rfl ?_
    refine Ex_getIE d_rm_keep_87 pf_rm_184 rfl (t_38 hs) hP.2.2.1 ?_
    refine Ex_iconst d_rm_keep_90 ic_1 ?_
    refine Ex_iaddN ((pHi P).length) (1) d_rm_keep_91 rfl rfl ?_
    refine Ex_goto 97 d_rm_keep_92 rfl ?_
    refine Ex_putI d_rm_keep_97 pf_rm_184 (Or.inl rfl) (t_38 hs) (Or.inl rfl) ?_
    refine Ex_return d_rm_keep_100 rfl ?_
    refine ⟨rfl, ?_, ?_⟩
    · refine ⟨?_, (ua + 1) % 40, rfl, ?_⟩
      · show _ = nI (((p, pPat P p) :: pHi P).take 40).length
        rw [List.length_take, List.length_cons]
        first | exact congrArg nI (by omega) | exact (show nI 40 = nI _ from congrArg nI (by omega))
      · refine ring_push hr hQ.2.2.2.2.1 hlen ⟨by simp [mI_wI, mI_wA], fun x hx => by simp [mI_wI, mI_wA, hx]⟩ ⟨by simp [mI_wI, mI_wA], fun x hx => by simp [mI_wI, mI_wA, hx]⟩ ⟨fun i hi => ?_, fun x i hx hi => ?_⟩ (fun q hq => (hQ.2.2.2.2.2 q hq).2.1)
        · show cpF (mI h 51) (mI h 47) (60 * ua) (60 * p) (pPat P p).length (60 * ua + i) = _
          unfold cpF
          have hi : i < (pPat P p).length := hi
          rw [if_pos (by omega), show 60 * p + (60 * ua + i - 60 * ua) = 60 * p + i by omega]
          exact (hP.2.1.2 p hp).2 i hi
        · show cpF (mI h 51) (mI h 47) (60 * ua) (60 * p) (pPat P p).length (60 * x + i) = _
          unfold cpF
          rw [if_neg (by omega)]
    · refine Fr.sI (Fr.sI (Fr.sA (Fr.sI (Fr.sI Fr.rf ?_) ?_) ?_) ?_) ?_
      · unfold WHi; omega
      · unfold WHi; omega
      · intro k hk; exact absurd (show WHi 51 k by unfold WHi; omega) hk
      · unfold WHi; omega
      · unfold WHi; omega
