/-! States that stay well formed; the reference: own, sets, move. -/
theorem Ex_heq {S : mj_S} {μ : mj_Y} {pc : Nat} {ls : mj_L} {st : List Value} {h h' : mj_H} {Q : Option Value → mj_H → Prop} (e : h' = h) (k : Ex S μ pc ls st h' Q) : Ex S μ pc ls st h Q := e ▸ k
theorem okL_mono {a b : Nat} {l : List Nat} (h : okL a l) (hab : a ≤ b) : okL b l := ⟨h.1, fun x hx => Nat.lt_of_lt_of_le (h.2 x hx) hab⟩
theorem newR_Lo {P : SP} {l : Nat} {z : Int} {c : Nat → Tl} {r : Nat} (h : r < pMd P) : pL (newR P l z c) r = pL P r := by
  have hne : ¬ r = P.1 := by have : P.1 = pMd P := rfl; omega
  show va_up P.2.1 P.1 l r = _
  unfold va_up
  rw [if_neg hne]; rfl
theorem newR_Oo {P : SP} {l : Nat} {z : Int} {c : Nat → Tl} {r : Nat} (h : r < pMd P) : pO (newR P l z c) r = pO P r := by
  have hne : ¬ r = P.1 := by have : P.1 = pMd P := rfl; omega
  show va_up P.2.2.1 P.1 z r = _
  unfold va_up
  rw [if_neg hne]; rfl
theorem newR_Co {P : SP} {l : Nat} {z : Int} {c : Nat → Tl} {r : Nat} (h : r < pMd P) : pC (newR P l z c) r = pC P r := by
  have hne : ¬ r = P.1 := by have : P.1 = pMd P := rfl; omega
  show va_up P.2.2.2.1 P.1 c r = _
  unfold va_up
  rw [if_neg hne]; rfl
theorem newR_Ln {P : SP} {l : Nat} {z : Int} {c : Nat → Tl} : pL (newR P l z c) (pMd P) = l := by
  show va_up P.2.1 P.1 l P.1 = _
  simp [va_up]
theorem newR_On {P : SP} {l : Nat} {z : Int} {c : Nat → Tl} : pO (newR P l z c) (pMd P) = z := by
  show va_up P.2.2.1 P.1 z P.1 = _
  simp [va_up]
theorem newR_Cn {P : SP} {l : Nat} {z : Int} {c : Nat → Tl} : pC (newR P l z c) (pMd P) = c := by
  show va_up P.2.2.2.1 P.1 c P.1 = _
  simp [va_up]
theorem PO_uHi {n : Nat} {P : SP} (h : PO n P) {l : List (Nat × List Nat)} (h1 : l.length ≤ 40) (h2 : ∀ q ∈ l, q.1 < pNp P ∧ okL (pMd P) q.2) : PO n (uHi P l) := ⟨h.1, h.2.1, h.2.2.1, h.2.2.2.1, h1, h2⟩
theorem PO_keep {n : Nat} {P : SP} (h : PO n P) {p : Nat} (hp : p < pNp P) : PO n (keepP P p) := by
  refine PO_uHi h (by simp; omega) (fun q hq => ?_)
  rcases List.mem_cons.mp (List.mem_of_mem_take hq) with rfl | hq
  · exact ⟨hp, h.2.2.2.1 p hp⟩
  · exact h.2.2.2.2.2 q hq
theorem PO_newR {n : Nat} {P : SP} (h : PO n P) (hm : pMd P < 6000) {l : Nat} {z : Int} {c : Nat → Tl} (hl : l ≤ 60) (hz : -30 ≤ z ∧ z ≤ 30) (hc : ∀ k, k < l → okT n (c k)) : PO n (newR P l z c) := by
  refine ⟨by show pMd P + 1 ≤ 6000; omega, fun r hr => ?_, h.2.2.1, fun p hp => okL_mono (h.2.2.2.1 p hp) (show pMd P ≤ pMd P + 1 by omega), h.2.2.2.2.1, fun q hq => ⟨(h.2.2.2.2.2 q hq).1, okL_mono (h.2.2.2.2.2 q hq).2 (show pMd P ≤ pMd P + 1 by omega)⟩⟩
  have hr : r < P.1 + 1 := hr
  by_cases hrm : r = P.1
  · have a1 : pL (newR P l z c) r = l := by simp [newR, pL, va_up, hrm]
    have a2 : pO (newR P l z c) r = z := by simp [newR, pO, va_up, hrm]
    have a3 : pC (newR P l z c) r = c := by simp [newR, pC, va_up, hrm]
    rw [a1, a2, a3]
    exact ⟨hl, hz.1, hz.2, hc⟩
  · have a1 : pL (newR P l z c) r = pL P r := by simp [newR, pL, va_up, hrm]
    have a2 : pO (newR P l z c) r = pO P r := by simp [newR, pO, va_up, hrm]
    have a3 : pC (newR P l z c) r = pC P r := by simp [newR, pC, va_up, hrm]
    rw [a1, a2, a3]
    exact h.2.1 r (show r < P.1 by omega)
theorem PO_uPat {n : Nat} {P : SP} (h : PO n P) {p : Nat} {l : List Nat} (hl : okL (pMd P) l) : PO n (uPat P p l) := by
  refine ⟨h.1, h.2.1, h.2.2.1, fun q hq => ?_, h.2.2.2.2⟩
  by_cases hqp : q = p
  · have : pPat (uPat P p l) q = l := by simp [uPat, pPat, va_up, hqp]
    rw [this]; exact hl
  · have : pPat (uPat P p l) q = pPat P q := by simp [uPat, pPat, va_up, hqp]
    rw [this]; exact h.2.2.2.1 q hq
def newPat (P : SP) (l : List Nat) : SP := (P.1, P.2.1, P.2.2.1, P.2.2.2.1, P.2.2.2.2.1 + 1, va_up (pPat P) (pNp P) l, P.2.2.2.2.2.2)
theorem PO_newPat {n : Nat} {P : SP} (h : PO n P) (hn : pNp P < 16) {l : List Nat} (hl : okL (pMd P) l) : PO n (newPat P l) := by
  refine ⟨h.1, h.2.1, by show pNp P + 1 ≤ 16; omega, fun q hq => ?_, h.2.2.2.2.1, fun q hq => ⟨Nat.lt_of_lt_of_le (h.2.2.2.2.2 q hq).1 (show pNp P ≤ pNp P + 1 by omega), (h.2.2.2.2.2 q hq).2⟩⟩
  have hq : q < pNp P + 1 := hq
  by_cases hqp : q = pNp P
  · have : pPat (newPat P l) q = l := by simp [newPat, pPat, va_up, hqp]
    rw [this]; exact hl
  · have : pPat (newPat P l) q = pPat P q := by simp [newPat, pPat, va_up, hqp]
    rw [this]; exact h.2.2.2.1 q (by omega)
theorem PO_rem {n : Nat} {P : SP} (h : PO n P) {p i : Nat} (hp : p < pNp P) (hi : i < (pPat P p).length) : PO n (remP P p i) := by
  have h1 := h.2.2.2.1 p hp
  refine PO_uPat (PO_keep h hp) ⟨by rw [delL_len hi]; have := h1.1; omega, fun x hx => h1.2 x (delL_mem hx)⟩
theorem PO_ins {n : Nat} {P : SP} (h : PO n P) {p i l : Nat} {z : Int} (hp : p < pNp P) (hi : i ≤ (pPat P p).length) (h60 : (pPat P p).length < 60) (hm : pMd P < 6000) (hl : l ≤ 60) (hz : -30 ≤ z ∧ z ≤ 30) : PO n (insP P p i l z) := by
  have h1 := h.2.2.2.1 p hp
  refine PO_uPat (PO_newR (c := fun _ => none) (PO_keep h hp) hm hl hz (fun _ _ => trivial)) ⟨by rw [insL_len hi]; omega, fun x hx => ?_⟩
  show x < pMd P + 1
  rcases insL_mem hx with rfl | hx
  · omega
  · have := h1.2 x hx; omega
theorem PO_mov {n : Nat} {P : SP} (h : PO n P) {p i t : Nat} (hp : p < pNp P) (hi : i < (pPat P p).length) (ht : t < (pPat P p).length) : PO n (movP P p i t) := by
  have h1 := h.2.2.2.1 p hp
  refine PO_uPat (PO_keep h hp) ⟨by rw [insL_len (by rw [delL_len hi]; omega), delL_len hi]; have := h1.1; omega, fun x hx => ?_⟩
  rcases insL_mem hx with rfl | hx
  · exact h1.2 _ (getD_mem hi)
  · exact h1.2 x (delL_mem hx)
/-- cell k of row i of a pattern set: a new row in its place -/
def setP (P : SP) (p i k : Nat) (c : Tl) : SP := uPat (newR (keepP P p) (pL P ((pPat P p).getD i 0)) (pO P ((pPat P p).getD i 0)) (va_up (pC P ((pPat P p).getD i 0)) k c)) p ((pPat P p).set i (pMd P))
def ownP (P : SP) (p i : Nat) : SP := uPat (newR P (pL P ((pPat P p).getD i 0)) (pO P ((pPat P p).getD i 0)) (pC P ((pPat P p).getD i 0))) p ((pPat P p).set i (pMd P))
theorem set_get {l : List Nat} {i x k : Nat} (hi : i < l.length) : (l.set i x).getD k 0 = if k = i then x else l.getD k 0 := by
  rw [List.getD_eq_getElem?_getD]
  by_cases h : k = i
  · subst h
    rw [List.getElem?_set_self hi, if_pos rfl]; rfl
  · rw [List.getElem?_set_ne (fun z => h z.symm), if_neg h, ← List.getD_eq_getElem?_getD]
theorem okL_set {md : Nat} {l : List Nat} (h : okL md l) (i : Nat) : okL (md + 1) (l.set i md) := by
  refine ⟨by rw [List.length_set]; exact h.1, fun x hx => ?_⟩
  rcases List.mem_or_eq_of_mem_set hx with hx | rfl
  · have := h.2 x hx; omega
  · omega
theorem PO_own {n : Nat} {P : SP} (h : PO n P) {p i : Nat} (hp : p < pNp P) (hi : i < (pPat P p).length) (hm : pMd P < 6000) : PO n (ownP P p i) := by
  have hr := PO_row h hp hi
  obtain ⟨a1, a2, a3, a4⟩ := h.2.1 _ hr
  exact PO_uPat (PO_newR h hm a1 ⟨a2, a3⟩ a4) (okL_set (h.2.2.2.1 p hp) i)
theorem PO_set {n : Nat} {P : SP} (h : PO n P) {p i k : Nat} {c : Tl} (hp : p < pNp P) (hi : i < (pPat P p).length) (hm : pMd P < 6000) (hc : okT n c) : PO n (setP P p i k c) := by
  have hr := PO_row h hp hi
  obtain ⟨a1, a2, a3, a4⟩ := h.2.1 _ hr
  refine PO_uPat (PO_newR (PO_keep h hp) hm a1 ⟨a2, a3⟩ (fun j hj => ?_)) (okL_set (h.2.2.2.1 p hp) i)
  unfold va_up
  split
  · exact hc
  · exact a4 j hj
theorem rm_own_L {S : mj_S} {Q : Option Value → mj_H → Prop} {h : mj_H} (hs : HT h) {p i r md l : Nat} (hrm : r < md) (hmd : md < 6000) (hl : l ≤ 60) (h44 : mI h 44 r = nI l)
    (kx : Ex S rm_own 70 [some (.ref 38), some (.int (nI (p))), some (.int (nI (i))), some (.int (nI (r))), some (.int (nI (md))), some (.int (nI (l)))] [] (wA h 46 (cpF (mI h 46) (mI h 46) (60 * md) (60 * r) (l))) Q) : ∀ d k : Nat, k + d = l → Ex S rm_own 28 [some (.ref 38), some (.int (nI (p))), some (.int (nI (i))), some (.int (nI (r))), some (.int (nI (md))), some (.int (nI (k)))] [] (wA h 46 (cpF (mI h 46) (mI h 46) (60 * md) (60 * r) (k))) Q := by
  intro d
  induction d with
  | zero =>
    intro k hk
    obtain rfl : k = l := by omega
    refine Ex_iload d_rm_own_28 rfl ?_
    refine Ex_aload_n d_rm_own_30 rfl ?_
    refine Ex_getR d_rm_own_31 pf_rm_27 rfl (t_38 hs) (r_38_6 hs) ?_
    refine Ex_iload_n d_rm_own_34 rfl ?_
    refine Ex_ialoadN (a := r) d_rm_own_35 (t_44 hs) rfl (by omega) (by decide) h44 ?_
    refine Ex_icmp_geN (k) (k) 70 d_rm_own_36 rfl rfl rfl (by omega) (by omega) (fun hc36 => ?_) (fun hc36 => ?_)
    · exact kx
    · exfalso; omega
  | succ d ih =>
    intro k hk
    refine Ex_iload d_rm_own_28 rfl ?_
    refine Ex_aload_n d_rm_own_30 rfl ?_
    refine Ex_getR d_rm_own_31 pf_rm_27 rfl (t_38 hs) (r_38_6 hs) ?_
    refine Ex_iload_n d_rm_own_34 rfl ?_
    refine Ex_ialoadN (a := r) d_rm_own_35 (t_44 hs) rfl (by omega) (by decide) h44 ?_
    refine Ex_icmp_geN (k) (l) 70 d_rm_own_36 rfl rfl rfl (by omega) (by omega) (fun hc36 => ?_) (fun hc36 => ?_)
    · exfalso; omega
    · refine Ex_aload_n d_rm_own_39 rfl ?_
      refine Ex_getR d_rm_own_40 pf_rm_34 rfl (t_38 hs) (r_38_8 hs) ?_
      refine Ex_bipush d_rm_own_43 bp_60 ?_
      refine Ex_iload d_rm_own_45 rfl ?_
      refine Ex_imulN (60) (md) d_rm_own_47 rfl rfl ?_
      refine Ex_iload d_rm_own_48 rfl ?_
      refine Ex_iaddN (60 * md) (k) d_rm_own_50 rfl rfl ?_
      refine Ex_aload_n d_rm_own_51 rfl ?_
      refine Ex_getR d_rm_own_52 pf_rm_34 rfl (t_38 hs) (r_38_8 hs) ?_
      refine Ex_bipush d_rm_own_55 bp_60 ?_
      refine Ex_iload_n d_rm_own_57 rfl ?_
      refine Ex_imulN (60) (r) d_rm_own_58 rfl rfl ?_
      refine Ex_iload d_rm_own_59 rfl ?_
      refine Ex_iaddN (60 * r) (k) d_rm_own_61 rfl rfl ?_
      refine Ex_ialoadN (a := (60 * r) + k) d_rm_own_62 (t_46 hs) rfl (by omega) (by decide) (show cpF (mI h 46) (mI h 46) (60 * md) (60 * r) k (60 * r + k) = _ from by unfold cpF; rw [if_neg (by omega)]) ?_
      refine Ex_iastoreN (a := (60 * md) + k) d_rm_own_63 (t_46 hs) rfl (by omega) (by decide) ?_
      refine Ex_iincN (k) 1 [some (.ref 38), some (.int (nI (p))), some (.int (nI (i))), some (.int (nI (r))), some (.int (nI (md))), some (.int (nI (k + 1)))] d_rm_own_64 rfl rfl rfl rfl ?_
      refine Ex_goto 28 d_rm_own_67 rfl ?_
      rw [wI_wA]
      exact (cpF_s (mI h 46) (mI h 46) (60 * md) (60 * r) k) ▸ ih (k + 1) (by omega)
theorem rm_own_s {S : mj_S} {h : mj_H} (hs : HT h) {P : SP} (hR : RwM P h) (hPa : PaM P h) {n : Nat} (hQ : PO n P) {p i : Nat} (hp : p < pNp P) (hi : i < (pPat P p).length) (hm : pMd P < 6000) : Cl S rm_own [.ref 38, .int (nI (p)), .int (nI (i))] h (fun r h' => r = none ∧ RwM (ownP P p i) h' ∧ PaM (ownP P p i) h' ∧ Fr (fun a k => WRw a k ∨ WPa a k) h h') := by
  show Ex S rm_own 0 [some (.ref 38), some (.int (nI (p))), some (.int (nI (i))), none, none, none] [] h _
  have hlen := (hQ.2.2.2.1 p hp).1
  have hnp := hQ.2.2.1
  have hr := PO_row hQ hp hi
  have hro := hQ.2.1 _ hr
  refine Ex_aload_n d_rm_own_0 rfl ?_
  refine Ex_iload_n d_rm_own_1 rfl ?_
  refine Ex_iload_n d_rm_own_2 rfl ?_
  refine Ex_pV2 d_rm_own_3 pk_rm_own_175 (t_38 hs) (rm_rowOf_p hs hPa hQ hp hi) ?_
  refine Ex_istore_n [some (.ref 38), some (.int (nI (p))), some (.int (nI (i))), some (.int (nI ((pPat P p).getD i 0))), none, none] d_rm_own_6 (Nat.le_of_ble_eq_true rfl) rfl ?_
  refine Ex_aload_n d_rm_own_7 rfl ?_
  refine Ex_aload_n d_rm_own_8 rfl ?_
  refine Ex_getR d_rm_own_9 pf_rm_27 rfl (t_38 hs) (r_38_6 hs) ?_
  refine Ex_iload_n d_rm_own_12 rfl ?_
  refine Ex_ialoadN (a := (pPat P p).getD i 0) d_rm_own_13 (t_44 hs) rfl (by omega) (by decide) (hR.2 _ hr).1 ?_
  refine Ex_aload_n d_rm_own_14 rfl ?_
  refine Ex_getR d_rm_own_15 pf_rm_30 rfl (t_38 hs) (r_38_7 hs) ?_
  refine Ex_iload_n d_rm_own_18 rfl ?_
  refine Ex_ialoadN (a := (pPat P p).getD i 0) d_rm_own_19 (t_45 hs) rfl (by omega) (by decide) (hR.2 _ hr).2.1 ?_
  refine Ex_cV2 d_rm_own_20 pk_rm_own_194 (t_38 hs) (rm_newRow_s hs hR hQ hm hro.1) ?_
  rintro r h2 ⟨rfl, hRw2, hF2⟩
  have hs2 : HT h2 := hF2.ht hs WRw_st
  have hN2 := HT_n hs
  have hr2 : mI h2 44 ((pPat P p).getD i 0) = nI (pL P ((pPat P p).getD i 0)) := by
    have := (hRw2.2 ((pPat P p).getD i 0) (show _ < pMd P + 1 by omega)).1
    rw [this, newR_Lo hr]
  show Ex S rm_own 23 [some (.ref 38), some (.int (nI (p))), some (.int (nI (i))), some (.int (nI ((pPat P p).getD i 0))), none, none] [.int (nI (pMd P))] h2 _
  refine Ex_istore [some (.ref 38), some (.int (nI (p))), some (.int (nI (i))), some (.int (nI ((pPat P p).getD i 0))), some (.int (nI (pMd P))), none] d_rm_own_23 (Nat.le_of_ble_eq_true rfl) rfl ?_
  refine Ex_iconst d_rm_own_25 ic_0 ?_
  refine Ex_istore [some (.ref 38), some (.int (nI (p))), some (.int (nI (i))), some (.int (nI ((pPat P p).getD i 0))), some (.int (nI (pMd P))), some (.int (0))] d_rm_own_26 (Nat.le_of_ble_eq_true rfl) rfl ?_
  refine Ex_heq (h' := (wA h2 46 (cpF (mI h2 46) (mI h2 46) (60 * pMd P) (60 * ((pPat P p).getD i 0)) 0))) (by rw [cpF_0, wA_self]) ?_
  refine rm_own_L hs2 hr hm hro.1 hr2 ?_ (pL P ((pPat P p).getD i 0)) 0 (by omega)
  refine Ex_aload_n d_rm_own_70 rfl ?_
  refine Ex_getR d_rm_own_71 pf_rm_37 rfl (t_38 hs2) (r_38_10 hs2) ?_
  refine Ex_bipush d_rm_own_74 bp_60 ?_
  refine Ex_iload_n d_rm_own_76 rfl ?_
  refine Ex_imulN (60) (p) d_rm_own_77 rfl rfl ?_
  refine Ex_iload_n d_rm_own_78 rfl ?_
  refine Ex_iaddN (60 * p) (i) d_rm_own_79 rfl rfl ?_
  refine Ex_iload d_rm_own_80 rfl ?_
  refine Ex_iastoreN (a := (60 * p) + i) d_rm_own_82 (t_47 hs2) rfl (by omega) (by decide) ?_
  refine Ex_return d_rm_own_83 rfl ?_
  refine ⟨rfl, ?_, ?_, ?_⟩
  · refine ⟨hRw2.1, fun r0 hr0 => ?_⟩
    have hr0 : r0 < pMd P + 1 := hr0
    obtain ⟨a1, a2, a3⟩ := hRw2.2 r0 hr0
    refine ⟨a1, a2, fun k hk => ?_⟩
    have hk : k < pL (newR P (pL P ((pPat P p).getD i 0)) (pO P ((pPat P p).getD i 0)) (pC P ((pPat P p).getD i 0))) r0 := hk
    show cpF (mI h2 46) (mI h2 46) (60 * pMd P) (60 * ((pPat P p).getD i 0)) (pL P ((pPat P p).getD i 0)) (60 * r0 + k) = eM (pC (newR P (pL P ((pPat P p).getD i 0)) (pO P ((pPat P p).getD i 0)) (pC P ((pPat P p).getD i 0))) r0 k)
    by_cases hrm : r0 = pMd P
    · subst hrm
      rw [newR_Ln] at hk
      rw [newR_Cn]
      unfold cpF
      rw [if_pos (by omega), show 60 * ((pPat P p).getD i 0) + (60 * pMd P + k - 60 * pMd P) = 60 * ((pPat P p).getD i 0) + k by omega]
      have := (hRw2.2 ((pPat P p).getD i 0) (show _ < pMd P + 1 by omega)).2.2 k (by rw [newR_Lo hr]; exact hk)
      rw [this, newR_Co hr]
    · have hr1 : r0 < pMd P := by omega
      rw [newR_Lo hr1] at hk
      rw [newR_Co hr1]
      have h60 : pL P r0 ≤ 60 := (hQ.2.1 r0 hr1).1
      unfold cpF
      rw [if_neg (by omega)]
      have := a3 k (by rw [newR_Lo hr1]; exact hk)
      rw [this, newR_Co hr1]
  · have e47 : ∀ x, mI h2 47 x = mI h 47 x := fun x => (hF2.2 47 x (by omega) (by unfold WRw; omega)).1
    have e48 : ∀ x, mI h2 48 x = mI h 48 x := fun x => (hF2.2 48 x (by omega) (by unfold WRw; omega)).1
    have e12 : mI h2 38 12 = mI h 38 12 := (hF2.2 38 12 (by omega) (by unfold WRw; omega)).1
    refine PaM_upd (p := p) (l' := (pPat P p).set i (pMd P)) hPa hQ ?_ hp ?_ ?_ ?_ ?_
    · exact e12
    · rw [List.length_set]; exact (e48 p).trans (hPa.2 p hp).1
    · exact fun q _ => e48 q
    · intro k hk
      rw [List.length_set] at hk
      rw [set_get hi]
      show va_up (mI h2 47) (60 * p + i) (nI (pMd P)) (60 * p + k) = _
      unfold va_up
      by_cases hki : k = i
      · rw [if_pos (by omega), if_pos hki]
      · rw [if_neg (by omega), if_neg hki, e47]
        exact (hPa.2 p hp).2 k hk
    · intro q k hq hk
      show va_up (mI h2 47) (60 * p + i) (nI (pMd P)) (60 * q + k) = _
      unfold va_up
      rw [if_neg (by omega), e47]
  · refine Fr.sI (Fr.sA (hF2.mono (fun a k z => Or.inl z)) (fun k hk => ?_)) ?_
    · exact absurd (Or.inl (show WRw 46 k by unfold WRw; omega)) hk
    · exact Or.inr (by unfold WPa; omega)
