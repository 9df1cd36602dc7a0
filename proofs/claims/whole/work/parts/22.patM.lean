/-! Patterns and rows: the abstract state, and what the reference holds of it. -/
abbrev SP : Type := Nat × (Nat → Nat) × (Nat → Int) × (Nat → Nat → Tl) × Nat × (Nat → List Nat) × List (Nat × List Nat)
def pMd (P : SP) : Nat := P.1
def pL (P : SP) : Nat → Nat := P.2.1
def pO (P : SP) : Nat → Int := P.2.2.1
def pC (P : SP) : Nat → Nat → Tl := P.2.2.2.1
def pNp (P : SP) : Nat := P.2.2.2.2.1
def pPat (P : SP) : Nat → List Nat := P.2.2.2.2.2.1
def pHi (P : SP) : List (Nat × List Nat) := P.2.2.2.2.2.2
def uPat (P : SP) (p : Nat) (l : List Nat) : SP := (P.1, P.2.1, P.2.2.1, P.2.2.2.1, P.2.2.2.2.1, va_up (pPat P) p l, P.2.2.2.2.2.2)
def uHi (P : SP) (l : List (Nat × List Nat)) : SP := (P.1, P.2.1, P.2.2.1, P.2.2.2.1, P.2.2.2.2.1, P.2.2.2.2.2.1, l)
def keepP (P : SP) (p : Nat) : SP := uHi P (((p, pPat P p) :: pHi P).take 40)
/-- one more row, of EMPTY cells -/
def newR (P : SP) (l : Nat) (z : Int) (c : Nat → Tl) : SP := (P.1 + 1, va_up P.2.1 P.1 l, va_up P.2.2.1 P.1 z, va_up P.2.2.2.1 P.1 c, P.2.2.2.2)
def uCell (P : SP) (r k : Nat) (c : Tl) : SP := (P.1, P.2.1, P.2.2.1, va_up P.2.2.2.1 r (va_up (pC P r) k c), P.2.2.2.2)
def okL (md : Nat) (l : List Nat) : Prop := l.length ≤ 60 ∧ ∀ x ∈ l, x < md
def PO (n : Nat) (P : SP) : Prop := pMd P ≤ 6000 ∧ (∀ r, r < pMd P → pL P r ≤ 60 ∧ -30 ≤ pO P r ∧ pO P r ≤ 30 ∧ ∀ k, k < pL P r → okT n (pC P r k)) ∧ pNp P ≤ 16 ∧ (∀ p, p < pNp P → okL (pMd P) (pPat P p)) ∧ (pHi P).length ≤ 40 ∧ ∀ q ∈ pHi P, q.1 < pNp P ∧ okL (pMd P) q.2
theorem getD_mem {l : List Nat} {i : Nat} (h : i < l.length) : l.getD i 0 ∈ l := by
  rw [List.getD_eq_getElem?_getD, List.getElem?_eq_getElem h]
  exact List.getElem_mem h
theorem PO_row {n : Nat} {P : SP} (hP : PO n P) {p i : Nat} (hp : p < pNp P) (hi : i < (pPat P p).length) : (pPat P p).getD i 0 < pMd P := (hP.2.2.2.1 p hp).2 _ (getD_mem hi)
/-- a list of rows, 60 places a list -/
def LMa (f g : Nat → Int32) (p : Nat) (l : List Nat) : Prop := g p = nI l.length ∧ ∀ i, i < l.length → f (60 * p + i) = nI (l.getD i 0)
def HEa (f g e : Nat → Int32) (x : Nat) (q : Nat × List Nat) : Prop := f x = nI q.1 ∧ LMa e g x q.2
def RwM (P : SP) (h : mj_H) : Prop := mI h 38 9 = nI (pMd P) ∧ ∀ r, r < pMd P → mI h 44 r = nI (pL P r) ∧ mI h 45 r = J (pO P r) ∧ ∀ k, k < pL P r → mI h 46 (60 * r + k) = eM (pC P r k)
def PaM (P : SP) (h : mj_H) : Prop := mI h 38 12 = nI (pNp P) ∧ ∀ p, p < pNp P → LMa (mI h 47) (mI h 48) p (pPat P p)
def ring (f g e : Nat → Int32) (ua : Nat) (l : List (Nat × List Nat)) : Prop := ua < 40 ∧ ∀ j, j < l.length → HEa f g e ((ua + 39 - j) % 40) (l.getD j (0, []))
def HiM (P : SP) (h : mj_H) : Prop := mI h 38 16 = nI (pHi P).length ∧ ∃ ua, mI h 38 17 = nI ua ∧ ring (mI h 49) (mI h 50) (mI h 51) ua (pHi P)
def PM (P : SP) (h : mj_H) : Prop := RwM P h ∧ PaM P h ∧ HiM P h
theorem ring_push {f g e f' g' e' : Nat → Int32} {ua : Nat} {l : List (Nat × List Nat)} {q : Nat × List Nat} (hr : ring f g e ua l) (hl : l.length ≤ 40) (hq : q.2.length ≤ 60)
    (hf : f' ua = nI q.1 ∧ ∀ x, x ≠ ua → f' x = f x) (hg : g' ua = nI q.2.length ∧ ∀ x, x ≠ ua → g' x = g x) (he : (∀ i, i < q.2.length → e' (60 * ua + i) = nI (q.2.getD i 0)) ∧ ∀ x i, x ≠ ua → i < 60 → e' (60 * x + i) = e (60 * x + i)) (hL : ∀ q ∈ l, q.2.length ≤ 60) : ring f' g' e' ((ua + 1) % 40) ((q :: l).take 40) := by
  obtain ⟨hu, h⟩ := hr
  refine ⟨Nat.mod_lt _ (by omega), fun j hj => ?_⟩
  rw [List.length_take, List.length_cons] at hj
  rw [show ((q :: l).take 40).getD j (0, []) = (q :: l).getD j (0, []) by
    rw [List.getD_eq_getElem?_getD, List.getD_eq_getElem?_getD, List.getElem?_take_of_lt (by omega)]]
  cases j with
  | zero =>
    rw [show ((ua + 1) % 40 + 39 - 0) % 40 = ua by omega]
    exact ⟨hf.1, hg.1, he.1⟩
  | succ j =>
    have hne : (ua + 39 - j) % 40 ≠ ua := by omega
    rw [show ((ua + 1) % 40 + 39 - (j + 1)) % 40 = (ua + 39 - j) % 40 by omega]
    have hj2 : j < l.length := by omega
    obtain ⟨a1, a2, a3⟩ := h j hj2
    have hm : l.getD j (0, []) ∈ l := by
      rw [List.getD_eq_getElem?_getD, List.getElem?_eq_getElem hj2]
      exact List.getElem_mem hj2
    have h60 := hL _ hm
    rw [List.getD_cons_succ]
    exact ⟨by rw [hf.2 _ hne]; exact a1, by rw [hg.2 _ hne]; exact a2, fun i hi => by rw [he.2 _ i hne (by omega)]; exact a3 i hi⟩
theorem ring_pop {f g e : Nat → Int32} {ua : Nat} {l : List (Nat × List Nat)} {q : Nat × List Nat} (hr : ring f g e ua (q :: l)) (hl : (q :: l).length ≤ 40) : HEa f g e ((ua + 39) % 40) q ∧ ring f g e ((ua + 39) % 40) l := by
  obtain ⟨hu, h⟩ := hr
  refine ⟨?_, Nat.mod_lt _ (by omega), fun j hj => ?_⟩
  · have := h 0 (by simp)
    simpa using this
  · have := h (j + 1) (by simp; omega)
    rw [List.getD_cons_succ] at this
    simp only [List.length_cons] at hl
    rw [show (ua + 39 - (j + 1)) % 40 = ((ua + 39) % 40 + 39 - j) % 40 by omega] at this
    exact this
theorem ring_cong {f g e f' g' e' : Nat → Int32} {ua : Nat} {l : List (Nat × List Nat)} (hr : ring f g e ua l) (hf : ∀ x, x < 40 → f' x = f x) (hg : ∀ x, x < 40 → g' x = g x) (he : ∀ x, x < 2400 → e' x = e x) (hL : ∀ q ∈ l, q.2.length ≤ 60) : ring f' g' e' ua l := by
  refine ⟨hr.1, fun j hj => ?_⟩
  obtain ⟨a1, a2, a3⟩ := hr.2 j hj
  have hx : (ua + 39 - j) % 40 < 40 := Nat.mod_lt _ (by omega)
  have hm : l.getD j (0, []) ∈ l := by
    rw [List.getD_eq_getElem?_getD, List.getElem?_eq_getElem hj]
    exact List.getElem_mem hj
  have h60 := hL _ hm
  exact ⟨by rw [hf _ hx]; exact a1, by rw [hg _ hx]; exact a2, fun i hi => by rw [he _ (by omega)]; exact a3 i hi⟩
/-- what stands at a place of a row, of a pattern -/
def rAt (P : SP) (r : Nat) (j : Int) : Option Tl := if pO P r ≤ j ∧ j < pO P r + pL P r then some (pC P r (j - pO P r).toNat) else none
def cAt (P : SP) (p : Nat) (i j : Int) : Option Tl := if 0 ≤ i ∧ i < (pPat P p).length then rAt P ((pPat P p).getD i.toNat 0) j else none
theorem cAt_ok {n : Nat} {P : SP} (hP : PO n P) {p : Nat} (hp : p < pNp P) {i j : Int} : okA n (cAt P p i j) := by
  unfold cAt
  split
  · rename_i h1
    have hr := PO_row hP hp (i := i.toNat) (by omega)
    unfold rAt
    split
    · rename_i h2
      exact (hP.2.1 _ hr).2.2.2 _ (by omega)
    · trivial
  · trivial
def WRw (a k : Nat) : Prop := a = 44 ∨ a = 45 ∨ a = 46 ∨ (a = 38 ∧ k = 9)
def WPa (a k : Nat) : Prop := a = 47 ∨ a = 48 ∨ (a = 38 ∧ k = 12)
def WHi (a k : Nat) : Prop := a = 49 ∨ a = 50 ∨ a = 51 ∨ (a = 38 ∧ (k = 16 ∨ k = 17))
def WPM (a k : Nat) : Prop := (44 ≤ a ∧ a ≤ 51) ∨ (a = 38 ∧ (k = 9 ∨ k = 12 ∨ k = 16 ∨ k = 17))
theorem RwM_fr {W : Nat → Nat → Prop} {P : SP} {h h' : mj_H} (hs : HT h) (f : Fr W h h') (hw : ∀ a k, WRw a k → ¬ W a k) (hK : RwM P h) : RwM P h' := by
  have hn := HT_n hs
  refine ⟨by rw [(f.2 38 9 (by omega) (hw _ _ (by unfold WRw; omega))).1]; exact hK.1, fun r hr => ?_⟩
  obtain ⟨a1, a2, a3⟩ := hK.2 r hr
  refine ⟨by rw [(f.2 44 r (by omega) (hw _ _ (by unfold WRw; omega))).1]; exact a1, by rw [(f.2 45 r (by omega) (hw _ _ (by unfold WRw; omega))).1]; exact a2, fun k hk => ?_⟩
  rw [(f.2 46 _ (by omega) (hw _ _ (by unfold WRw; omega))).1]
  exact a3 k hk
theorem PaM_fr {W : Nat → Nat → Prop} {P : SP} {h h' : mj_H} (hs : HT h) (f : Fr W h h') (hw : ∀ a k, WPa a k → ¬ W a k) (hK : PaM P h) : PaM P h' := by
  have hn := HT_n hs
  refine ⟨by rw [(f.2 38 12 (by omega) (hw _ _ (by unfold WPa; omega))).1]; exact hK.1, fun p hp => ?_⟩
  obtain ⟨a1, a2⟩ := hK.2 p hp
  refine ⟨by rw [(f.2 48 p (by omega) (hw _ _ (by unfold WPa; omega))).1]; exact a1, fun i hi => ?_⟩
  rw [(f.2 47 _ (by omega) (hw _ _ (by unfold WPa; omega))).1]
  exact a2 i hi
theorem HiM_fr {W : Nat → Nat → Prop} {P : SP} {h h' : mj_H} (hs : HT h) (f : Fr W h h') (hw : ∀ a k, WHi a k → ¬ W a k) (hK : HiM P h) : HiM P h' := by
  have hn := HT_n hs
  obtain ⟨h1, ua, h2, hr⟩ := hK
  refine ⟨by rw [(f.2 38 16 (by omega) (hw _ _ (by unfold WHi; omega))).1]; exact h1, ua, by rw [(f.2 38 17 (by omega) (hw _ _ (by unfold WHi; omega))).1]; exact h2, ?_⟩
  rw [show mI h' 49 = mI h 49 from funext fun k => (f.2 49 k (by omega) (hw _ _ (by unfold WHi; omega))).1, show mI h' 50 = mI h 50 from funext fun k => (f.2 50 k (by omega) (hw _ _ (by unfold WHi; omega))).1, show mI h' 51 = mI h 51 from funext fun k => (f.2 51 k (by omega) (hw _ _ (by unfold WHi; omega))).1]
  exact hr
theorem PM_fr {W : Nat → Nat → Prop} {P : SP} {h h' : mj_H} (hs : HT h) (f : Fr W h h') (hw : ∀ a k, WPM a k → ¬ W a k) (hK : PM P h) : PM P h' :=
  ⟨RwM_fr hs f (fun a k z => hw a k (by unfold WRw at z; unfold WPM; omega)) hK.1, PaM_fr hs f (fun a k z => hw a k (by unfold WPa at z; unfold WPM; omega)) hK.2.1, HiM_fr hs f (fun a k z => hw a k (by unfold WHi at z; unfold WPM; omega)) hK.2.2⟩
theorem wI_wA (h : mj_H) (a i : Nat) (f : Nat → Int32) (v : Int32) : wI (wA h a f) a i v = wA h a (va_up f i v) := by
  unfold wI
  rw [mj_sI]
  unfold wA
  congr 1
  congr 1
  funext j
  by_cases hj : j = a <;> simp [va_up, hj]
theorem wA_self (h : mj_H) (a : Nat) : wA h a (mI h a) = h := by
  obtain ⟨t, f, g⟩ := h
  unfold wA mI
  congr 1
  congr 1
  funext j
  unfold va_up
  split
  · rename_i e
    rw [e]
  · rfl
theorem wA_wA (h : mj_H) (a : Nat) (f g : Nat → Int32) : wA (wA h a f) a g = wA h a g := by
  unfold wA
  congr 1
  congr 1
  funext j
  by_cases hj : j = a <;> simp [va_up, hj]
theorem rm_isPattern_s {S : mj_S} {h : mj_H} (hs : HT h) {P : SP} (hP : PaM P h) (hn : pNp P ≤ 16) {z : Int} (hz : -2147483648 ≤ z ∧ z < 2147483648) : Cl S rm_isPattern [.ref 38, .int (J (z))] h (Pu (.int (bI (decide (0 ≤ z ∧ z < pNp P)))) h) := by
  show Ex S rm_isPattern 0 [some (.ref 38), some (.int (J (z)))] [] h _
  refine Ex_iload_n d_rm_isPattern_0 rfl ?_
  refine Ex_if_ltZ (z) 16 d_rm_isPattern_1 rfl rfl (by omega) (fun hc1 => ?_) (fun hc1 => ?_)
  · refine Ex_iconst d_rm_isPattern_16 ic_0 ?_
    refine Ex_zreturn d_rm_isPattern_17 rfl (by decide) ?_
    exact Pu_f (by omega)
  · refine Ex_iload_n d_rm_isPattern_4 rfl ?_
    refine Ex_aload_n d_rm_isPattern_5 rfl ?_
    refine Ex_getIE d_rm_isPattern_6 pf_rm_169 rfl (t_38 hs) hP.1 ?_
    refine Ex_icmp_geZ (z) (((pNp P : Nat) : Int)) 16 d_rm_isPattern_9 rfl rfl (nIJ _) (by omega) (by omega) (fun hc9 => ?_) (fun hc9 => ?_)
    · refine Ex_iconst d_rm_isPattern_16 ic_0 ?_
      refine Ex_zreturn d_rm_isPattern_17 rfl (by decide) ?_
      exact Pu_f (by omega)
    · refine Ex_iconst d_rm_isPattern_12 ic_1 ?_
      refine Ex_goto 17 d_rm_isPattern_13 rfl ?_
      refine Ex_zreturn d_rm_isPattern_17 rfl (by decide) ?_
      exact Pu_t (by omega)
theorem rm_rowOf_s {S : mj_S} {h : mj_H} (hs : HT h) {p i : Nat} (hp : p < 16) (hi : i < 60) : Cl S rm_rowOf [.ref 38, .int (nI (p)), .int (nI (i))] h (Pu (.int (mI h 47 (60 * p + i))) h) := by
  show Ex S rm_rowOf 0 [some (.ref 38), some (.int (nI (p))), some (.int (nI (i)))] [] h _
  refine Ex_aload_n d_rm_rowOf_0 rfl ?_
  refine Ex_getR d_rm_rowOf_1 pf_rm_37 rfl (t_38 hs) (r_38_10 hs) ?_
  refine Ex_bipush d_rm_rowOf_4 bp_60 ?_
  refine Ex_iload_n d_rm_rowOf_6 rfl ?_
  refine Ex_imulN (60) (p) d_rm_rowOf_7 rfl rfl ?_
  refine Ex_iload_n d_rm_rowOf_8 rfl ?_
  refine Ex_iaddN (60 * p) (i) d_rm_rowOf_9 rfl rfl ?_
  refine Ex_ialoadN (a := (60 * p) + i) d_rm_rowOf_10 (t_47 hs) rfl (by omega) (by decide) rfl ?_
  refine Ex_ireturn d_rm_rowOf_11 rfl ?_
  exact ⟨rfl, rfl⟩
def zF (f : Nat → Int32) (a l : Nat) : Nat → Int32 := fun x => if a ≤ x ∧ x < a + l then 0 else f x
theorem zF_0 (f : Nat → Int32) (a : Nat) : zF f a 0 = f := by
  funext x
  unfold zF
  rw [if_neg (by omega)]
theorem zF_s (f : Nat → Int32) (a l : Nat) : va_up (zF f a l) (a + l) 0 = zF f a (l + 1) := by
  funext x
  unfold zF va_up
  by_cases h1 : x = a + l
  · rw [if_pos h1, if_pos (by omega)]
  · rw [if_neg h1]
    show (if a ≤ x ∧ x < a + l then (0 : Int32) else f x) = _
    by_cases h2 : a ≤ x ∧ x < a + l
    · rw [if_pos h2, if_pos (by omega)]
    · rw [if_neg h2, if_neg (by omega)]
theorem rm_newRow_L {S : mj_S} {Q : Option Value → mj_H → Prop} {h : mj_H} (hs : HT h) {md l : Nat} {o : Int} (hm : mI h 38 9 = nI md) (hmd : md < 6000) (hl : l ≤ 60)
    (kx : Ex S rm_newRow 48 [some (.ref 38), some (.int (nI (l))), some (.int (J (o))), some (.int (nI (l)))] [] (wA h 46 (zF (mI h 46) (60 * md) l)) Q) : ∀ d k : Nat, k + d = l → Ex S rm_newRow 22 [some (.ref 38), some (.int (nI (l))), some (.int (J (o))), some (.int (nI (k)))] [] (wA h 46 (zF (mI h 46) (60 * md) k)) Q := by
  intro d
  induction d with
  | zero =>
    intro k hk
    obtain rfl : k = l := by omega
    refine Ex_iload_n d_rm_newRow_22 rfl ?_
    refine Ex_iload_n d_rm_newRow_23 rfl ?_
    refine Ex_icmp_geN (k) (k) 48 d_rm_newRow_24 rfl rfl rfl (by omega) (by omega) (fun hc24 => ?_) (fun hc24 => ?_)
    · exact kx
    · exfalso; omega
  | succ d ih =>
    intro k hk
    refine Ex_iload_n d_rm_newRow_22 rfl ?_
    refine Ex_iload_n d_rm_newRow_23 rfl ?_
    refine Ex_icmp_geN (k) (l) 48 d_rm_newRow_24 rfl rfl rfl (by omega) (by omega) (fun hc24 => ?_) (fun hc24 => ?_)
    · exfalso; omega
    · refine Ex_aload_n d_rm_newRow_27 rfl ?_
      refine Ex_getR d_rm_newRow_28 pf_rm_34 rfl (t_38 hs) (r_38_8 hs) ?_
      refine Ex_bipush d_rm_newRow_31 bp_60 ?_
      refine Ex_aload_n d_rm_newRow_33 rfl ?_
      refine Ex_getIE d_rm_newRow_34 pf_rm_172 rfl (t_38 hs) hm ?_
      refine Ex_imulN (60) (md) d_rm_newRow_37 rfl rfl ?_
      refine Ex_iload_n d_rm_newRow_38 rfl ?_
      refine Ex_iaddN (60 * md) (k) d_rm_newRow_39 rfl rfl ?_
      refine Ex_iconst d_rm_newRow_40 ic_0 ?_
      refine Ex_iastoreN (a := (60 * md) + k) d_rm_newRow_41 (t_46 hs) rfl (by omega) (by decide) ?_
      refine Ex_iincN (k) 1 [some (.ref 38), some (.int (nI (l))), some (.int (J (o))), some (.int (nI (k + 1)))] d_rm_newRow_42 rfl rfl rfl rfl ?_
      refine Ex_goto 22 d_rm_newRow_45 rfl ?_
      rw [wI_wA, zF_s]
      exact ih (k + 1) (by omega)
theorem rm_newRow_s {S : mj_S} {h : mj_H} (hs : HT h) {P : SP} (hR : RwM P h) {n : Nat} (hQ : PO n P) (hmd : pMd P < 6000) {l : Nat} {o : Int} (hl : l ≤ 60) : Cl S rm_newRow [.ref 38, .int (nI (l)), .int (J (o))] h (fun r h' => r = some (.int (nI (pMd P))) ∧ RwM (newR P l o (fun _ => none)) h' ∧ Fr WRw h h') := by
  show Ex S rm_newRow 0 [some (.ref 38), some (.int (nI (l))), some (.int (J (o))), none] [] h _
  refine Ex_aload_n d_rm_newRow_0 rfl ?_
  refine Ex_getR d_rm_newRow_1 pf_rm_27 rfl (t_38 hs) (r_38_6 hs) ?_
  refine Ex_aload_n d_rm_newRow_4 rfl ?_
  refine Ex_getIE d_rm_newRow_5 pf_rm_172 rfl (t_38 hs) hR.1 ?_
  refine Ex_iload_n d_rm_newRow_8 rfl ?_
  refine Ex_iastoreN (a := pMd P) d_rm_newRow_9 (t_44 hs) rfl (by omega) (by decide) ?_
  refine Ex_aload_n d_rm_newRow_10 rfl ?_
  refine Ex_getR d_rm_newRow_11 pf_rm_30 rfl (t_38 hs) (r_38_7 hs) ?_
  refine Ex_aload_n d_rm_newRow_14 rfl ?_
  refine Ex_getIE d_rm_newRow_15 pf_rm_172 rfl (t_38 hs) hR.1 ?_
  refine Ex_iload_n d_rm_newRow_18 rfl ?_
  refine Ex_iastoreN (a := pMd P) d_rm_newRow_19 (t_45 hs) rfl (by omega) (by decide) ?_
  refine Ex_iconst d_rm_newRow_20 ic_0 ?_
  refine Ex_istore_n [some (.ref 38), some (.int (nI (l))), some (.int (J (o))), some (.int (0))] d_rm_newRow_21 (Nat.le_of_ble_eq_true rfl) rfl ?_
  have hz : wA (wI (wI h 44 (pMd P) (nI l)) 45 (pMd P) (J o)) 46 (zF (mI (wI (wI h 44 (pMd P) (nI l)) 45 (pMd P) (J o)) 46) (60 * pMd P) 0) = wI (wI h 44 (pMd P) (nI l)) 45 (pMd P) (J o) := by rw [zF_0, wA_self]
  rw [← hz]
  refine rm_newRow_L (h := wI (wI h 44 (pMd P) (nI l)) 45 (pMd P) (J o)) hs (md := pMd P) hR.1 hmd hl ?_ l 0 (by omega)
  refine Ex_aload_n d_rm_newRow_48 rfl ?_
  refine Ex_dup rfl d_rm_newRow_49 ?_
  refine Ex_getIE d_rm_newRow_50 pf_rm_172 rfl (t_38 hs) hR.1 ?_
  refine Ex_iconst d_rm_newRow_53 ic_1 ?_
  refine Ex_iaddN (pMd P) (1) d_rm_newRow_54 rfl rfl ?_
  refine Ex_putI d_rm_newRow_55 pf_rm_172 (Or.inl rfl) (t_38 hs) (Or.inl rfl) ?_
  refine Ex_aload_n d_rm_newRow_58 rfl ?_
  refine Ex_getIE d_rm_newRow_59 pf_rm_172 rfl (t_38 hs) rfl ?_
  refine Ex_iconst d_rm_newRow_62 ic_1 ?_
  refine Ex_isubN (pMd P + 1) (1) d_rm_newRow_63 rfl rfl (by omega) ?_
  refine Ex_ireturn d_rm_newRow_64 rfl ?_
  refine ⟨by rw [show pMd P + 1 - 1 = pMd P by omega], ?_, ?_⟩
  · refine ⟨rfl, fun r hr => ?_⟩
    have hr : r < pMd P + 1 := hr
    by_cases hrm : r = pMd P
    · subst hrm
      refine ⟨by simp [mI_wI, mI_wA, newR, pL, pMd, va_up], by simp [mI_wI, mI_wA, newR, pO, pMd, va_up], fun k hk => ?_⟩
      have hk : k < l := by simpa [newR, pL, pMd, va_up] using hk
      have e1 : pC (newR P l o (fun _ => none)) (pMd P) k = none := by simp [newR, pC, pMd, va_up]
      rw [e1]
      show zF (mI h 46) (60 * pMd P) l (60 * pMd P + k) = 0
      unfold zF
      rw [if_pos (by omega)]
    · obtain ⟨a1, a2, a3⟩ := hR.2 r (by omega)
      have hrm2 : ¬ r = P.1 := hrm
      have b1 : pL (newR P l o (fun _ => none)) r = pL P r := by simp [newR, pL, va_up, hrm2]
      have b2 : pO (newR P l o (fun _ => none)) r = pO P r := by simp [newR, pO, va_up, hrm2]
      have b3 : pC (newR P l o (fun _ => none)) r = pC P r := by simp [newR, pC, va_up, hrm2]
      have c1 := (hQ.2.1 r (by omega)).1
      rw [b1, b2, b3]
      refine ⟨by simp [mI_wI, mI_wA, hrm]; exact a1, by simp [mI_wI, mI_wA, hrm]; exact a2, fun k hk => ?_⟩
      show zF (mI h 46) (60 * pMd P) l (60 * r + k) = _
      unfold zF
      rw [if_neg (by omega)]
      exact a3 k hk
  · refine Fr.sI (Fr.sA (Fr.sI (Fr.sI Fr.rf ?_) ?_) ?_) ?_
    · unfold WRw; omega
    · unfold WRw; omega
    · intro k hk; exact absurd (show WRw 46 k by unfold WRw; omega) hk
    · unfold WRw; omega
