/-! The class: frames of rows, patterns and the history; making and changing them. -/
theorem Ex_newarrayN {S : mj_S} {μ : mj_Y} {pc : Nat} {ls : mj_L} {st : List Value} {h : mj_H} {Q : Option Value → mj_H → Prop} {t a : Nat} {aty : ArrayType} {i : Int32} (hd : decode μ.2.1 pc = .ok (.newarray aty, 2)) (hty : (t = 0 ∧ aty = .int) ∨ (t = 1 ∧ aty = .long) ∨ (t = 2 ∧ aty = .boolean)) (hw : Cond.arrayClass (newarray.typeOf aty) ∈ lw_g) (hi : i = nI a) (hb : a ≤ 1000000) (kk : Ex S μ (pc + 2) ls (.ref (mN h) :: st) (mNew h t a) Q) : Ex S μ pc ls (.int i :: st) h Q := by
  subst hi
  exact Ex_newarray hd hty hw (nI_nonneg (by omega)) (nI_nat (by omega)) hb kk
theorem Ex_acN {S : mj_S} {μ : mj_Y} {pc idx : Nat} {ls : mj_L} {st : List Value} {h : mj_H} {Q : Option Value → mj_H → Prop} {n n1 x y : Nat} {sp dp m : Int32} (a b c : Nat) (hd : decode μ.2.1 pc = .ok (.invokestatic idx, 3)) (hw : Cond.methodLink μ.1.cls idx arraycopyName ∈ lw_g) (hl : ls.length = μ.2.2.1) (hr : 1 ≤ μ.2.2.2.2.1 ∧ mj_cat st + 18 ≤ μ.2.2.2.2.2)
    (hx : mT h x = some (0, n)) (hy : mT h y = some (0, n1)) (h1 : sp = nI a) (h2 : dp = nI b) (h3 : m = nI c) (h4 : a + c ≤ n) (h5 : b + c ≤ n1) (h6 : n ≤ 1000000) (h7 : n1 ≤ 1000000)
    (kk : Ex S μ (pc + 3) ls st (wA h y (va_cpy (mI h x) (mI h y) a b c)) Q) : Ex S μ pc ls (.int m :: .int dp :: .ref y :: .int sp :: .ref x :: st) h Q := by
  subst h1 h2 h3
  refine Ex_arraycopy hd hw pw_an pw_as pw_si hl hr hx hy (nI_nonneg (by omega)) (nI_nonneg (by omega)) (nI_nonneg (by omega)) (by rw [nI_nat (by omega), nI_nat (by omega)]; exact h4) (by rw [nI_nat (by omega), nI_nat (by omega)]; exact h5) ?_
  rw [nI_nat (by omega), nI_nat (by omega), nI_nat (by omega)]
  exact kk
theorem Ex_aastoreAN {S : mj_S} {μ : mj_Y} {pc : Nat} {ls : mj_L} {st : List Value} {h : mj_H} {Q : Option Value → mj_H → Prop} {m n a v w : Nat} {x : Int32} (hd : decode μ.2.1 pc = .ok (.aastore, 1)) (ht : mT h m = some (3, n)) (hv : mT h v = some (0, w)) (hi : x = nI a) (hk : a < n) (hn : n ≤ 2147483648) (k : Ex S μ (pc + 1) ls st (wR h m a (some v)) Q) : Ex S μ pc ls (.ref v :: .int x :: .ref m :: st) h Q := by
  subst hi
  refine Ex_aastoreA hd ht hv (in_nI hk hn) ?_
  rw [nI_nat (by omega)]
  exact k
theorem Ex_aastoreN {S : mj_S} {μ : mj_Y} {pc : Nat} {ls : mj_L} {st : List Value} {h : mj_H} {Q : Option Value → mj_H → Prop} {t ci m n a v w : Nat} {x : Int32} (hd : decode μ.2.1 pc = .ok (.aastore, 1)) (ht : mT h m = some (t, n)) (htt : 4 ≤ t ∧ t ≤ 6) (hv : mT h v = some (10 + ci, w)) (hci : (t = 4 ∧ ci = 6) ∨ (t = 5 ∧ ci = 8) ∨ (t = 6 ∧ ci = 3)) (hi : x = nI a) (hk : a < n) (hn : n ≤ 2147483648) (k : Ex S μ (pc + 1) ls st (wR h m a (some v)) Q) : Ex S μ pc ls (.ref v :: .int x :: .ref m :: st) h Q := by
  subst hi
  refine Ex_aastore (r := mj_classes.getD ci mj_classes[0]) hd ht htt hv hci (in_nI hk hn) ?_
  rw [nI_nat (by omega)]
  exact k
theorem mT_lt {h : mj_H} {a : Nat} {t : Nat × Nat} (z : mT h a = some t) : a < mN h := (List.getElem?_eq_some_iff.mp z).1
theorem Fr.xA {W : Nat → Nat → Prop} {h h1 : mj_H} (f : Fr W h h1) {a : Nat} {g : Nat → Int32} (ha : mN h ≤ a) : Fr W h (wA h1 a g) := by
  refine ⟨f.1, fun b j hb hn => ?_⟩
  obtain ⟨a1, a2, a3⟩ := f.2 b j hb hn
  refine ⟨?_, a2, a3⟩
  rw [mI_wA, if_neg (by omega)]
  exact a1
theorem Fr.xI {W : Nat → Nat → Prop} {h h1 : mj_H} (f : Fr W h h1) {a k : Nat} {v : Int32} (ha : mN h ≤ a) : Fr W h (wI h1 a k v) := f.xA ha
theorem Fr.xR {W : Nat → Nat → Prop} {h h1 : mj_H} (f : Fr W h h1) {a k : Nat} {v : Option Nat} (ha : mN h ≤ a) : Fr W h (wR h1 a k v) := by
  refine ⟨f.1, fun b j hb hn => ?_⟩
  obtain ⟨a1, a2, a3⟩ := f.2 b j hb hn
  refine ⟨a1, a2, ?_⟩
  rw [mR_wR, if_neg (by omega)]
  exact a3
def WRc (Y : OW) (a k : Nat) : Prop := (a = 21 ∧ k = 0) ∨ a = 22 ∨ a = 23 ∨ (74 ≤ a ∧ (Y a).1 = 0)
def WPc (Y : OW) (a k : Nat) : Prop := (a = 0 ∧ k = 3) ∨ a = 24 ∨ (74 ≤ a ∧ ((Y a).1 = 1 ∨ (Y a).1 = 2))
def WHc (a k : Nat) : Prop := a = 26 ∨ a = 27 ∨ a = 28 ∨ (a = 25 ∧ (k = 0 ∨ k = 1))
def Wal (a k : Nat) : Prop := a = 0 ∧ k = 1000000000
def WPC (Y : OW) (a k : Nat) : Prop := WRc Y a k ∨ WPc Y a k ∨ WHc a k ∨ Wal a k
def OwE (h : mj_H) (Y Y' : OW) : Prop := ∀ a, a < mN h → Y' a = Y a
theorem OwE.rf {h : mj_H} {Y : OW} : OwE h Y Y := fun _ _ => rfl
theorem OwE.tr {h h' : mj_H} {Y Y1 Y2 : OW} (f : OwE h Y Y1) (g : OwE h' Y1 Y2) (hn : mN h ≤ mN h') : OwE h Y Y2 := fun a ha => (g a (by omega)).trans (f a ha)
theorem OwE.up {h : mj_H} {Y : OW} {x : Nat} {q : Nat × Nat} (hx : mN h ≤ x) : OwE h Y (va_up Y x q) := fun a ha => by
  unfold va_up
  rw [if_neg (by omega)]
theorem Fr.I {W : Nat → Nat → Prop} {h h' : mj_H} (f : Fr W h h') {a k : Nat} (ha : a < mN h) (hw : ¬ W a k) : mI h' a k = mI h a k := (f.2 a k ha hw).1
theorem Fr.R {W : Nat → Nat → Prop} {h h' : mj_H} (f : Fr W h h') {a k : Nat} (ha : a < mN h) (hw : ¬ W a k) : mR h' a k = mR h a k := (f.2 a k ha hw).2.2
theorem Fr.L {W : Nat → Nat → Prop} {h h' : mj_H} (f : Fr W h h') {a k : Nat} (ha : a < mN h) (hw : ¬ W a k) : mL h' a k = mL h a k := (f.2 a k ha hw).2.1
theorem RwC1_fr {W : Nat → Nat → Prop} {P : SP} {Y Y' : OW} {h h' : mj_H} (hs : HT h) (f : Fr W h h') {r a : Nat} (h2 : ¬ W 22 r) (h3 : ¬ W 23 r) (hw : ∀ k, ¬ W a k) (hy : OwE h Y Y') (z : RwC1 P Y h r a) : RwC1 P Y' h' r a := by
  have hn := HT_n hs
  obtain ⟨⟨a1, a2⟩, a3, a4, a5, a6⟩ := z
  have ha := mT_lt a4
  exact ⟨⟨a1, by rw [hy a ha]; exact a2⟩, by rw [f.R (by omega) h3]; exact a3, f.1.1 _ _ a4, by rw [f.I (by omega) h2]; exact a5, fun k hk => by rw [f.I ha (hw k)]; exact a6 k hk⟩
theorem RwC_fr {W : Nat → Nat → Prop} {P : SP} {Y Y' : OW} {h h' : mj_H} (hs : HT h) (f : Fr W h h') (hw : ∀ a k, WRc Y a k → ¬ W a k) (hy : OwE h Y Y') (hK : RwC P Y h) : RwC P Y' h' := by
  have hn := HT_n hs
  refine ⟨by rw [f.I (by omega) (hw _ _ (by unfold WRc; omega))]; exact hK.1, fun r hr => ?_⟩
  obtain ⟨a, z⟩ := hK.2 r hr
  exact ⟨a, RwC1_fr hs f (hw _ _ (by unfold WRc; omega)) (hw _ _ (by unfold WRc; omega)) (fun k => hw _ _ (Or.inr (Or.inr (Or.inr ⟨z.1.1, by rw [z.1.2]⟩)))) hy z⟩
theorem Pob_fr {W : Nat → Nat → Prop} {h h' : mj_H} (f : Fr W h h') {a b : Nat} {l : List Nat} (ha : ∀ k, ¬ W a k) (hb : ∀ k, ¬ W b k) (z : Pob h a b l) : Pob h' a b l := by
  obtain ⟨⟨a1, a2, a3, a4⟩, a5, a6⟩ := z
  have la := mT_lt a1
  have lb := mT_lt a4
  exact ⟨⟨f.1.1 _ _ a1, by rw [f.R la (ha 0)]; exact a2, by rw [f.R la (ha 1)]; exact a3, f.1.1 _ _ a4⟩, by rw [f.I la (ha 2)]; exact a5, fun i hi => by rw [f.I lb (hb i)]; exact a6 i hi⟩
theorem Pob_ne {h : mj_H} {a b : Nat} {l : List Nat} (z : Pob h a b l) : a ≠ b := by
  rintro rfl
  have := z.1.1.symm.trans z.1.2.2.2
  simp at this
theorem PaC1_fr {W : Nat → Nat → Prop} {P : SP} {Y Y' : OW} {h h' : mj_H} (hs : HT h) (f : Fr W h h') {p a b : Nat} (h4 : ¬ W 24 p) (ha : ∀ k, ¬ W a k) (hb : ∀ k, ¬ W b k) (hy : OwE h Y Y') (z : PaC1 P Y h p a b) : PaC1 P Y' h' p a b := by
  have hn := HT_n hs
  obtain ⟨⟨a1, a2, a3, a4⟩, a5, a6⟩ := z
  exact ⟨⟨a1, a2, by rw [hy a (mT_lt a6.1.1)]; exact a3, by rw [hy b (mT_lt a6.1.2.2.2)]; exact a4⟩, by rw [f.R (by omega) h4]; exact a5, Pob_fr f ha hb a6⟩
theorem PaC_fr {W : Nat → Nat → Prop} {P : SP} {Y Y' : OW} {h h' : mj_H} (hs : HT h) (f : Fr W h h') (hw : ∀ a k, WPc Y a k → ¬ W a k) (hy : OwE h Y Y') (hK : PaC P Y h) : PaC P Y' h' := by
  have hn := HT_n hs
  refine ⟨by rw [f.I (by omega) (hw _ _ (by unfold WPc; omega))]; exact hK.1, fun p hp => ?_⟩
  obtain ⟨a, b, z⟩ := hK.2 p hp
  exact ⟨a, b, PaC1_fr hs f (hw _ _ (by unfold WPc; omega)) (fun k => hw _ _ (Or.inr (Or.inr ⟨z.1.1, Or.inl (by rw [z.1.2.2.1])⟩))) (fun k => hw _ _ (Or.inr (Or.inr ⟨z.1.2.1, Or.inr (by rw [z.1.2.2.2])⟩))) hy z⟩
theorem HiC_fr {W : Nat → Nat → Prop} {P : SP} {h h' : mj_H} (hs : HT h) (f : Fr W h h') (hw : ∀ a k, WHc a k → ¬ W a k) (hK : HiC P h) : HiC P h' := by
  have hn := HT_n hs
  obtain ⟨h1, ua, h2, hr⟩ := hK
  refine ⟨by rw [f.I (by omega) (hw _ _ (by unfold WHc; omega))]; exact h1, ua, by rw [f.I (by omega) (hw _ _ (by unfold WHc; omega))]; exact h2, ?_⟩
  rw [show mI h' 26 = mI h 26 from funext fun k => f.I (by omega) (hw _ _ (by unfold WHc; omega)), show mI h' 27 = mI h 27 from funext fun k => f.I (by omega) (hw _ _ (by unfold WHc; omega)), show mI h' 28 = mI h 28 from funext fun k => f.I (by omega) (hw _ _ (by unfold WHc; omega))]
  exact hr
theorem PC_fr {W : Nat → Nat → Prop} {P : SP} {Y Y' : OW} {h h' : mj_H} (hs : HT h) (f : Fr W h h') (hw : ∀ a k, WRc Y a k ∨ WPc Y a k ∨ WHc a k → ¬ W a k) (hy : OwE h Y Y') (hK : PC P Y h) : PC P Y' h' :=
  ⟨RwC_fr hs f (fun a k z => hw a k (Or.inl z)) hy hK.1, PaC_fr hs f (fun a k z => hw a k (Or.inr (Or.inl z))) hy hK.2.1, HiC_fr hs f (fun a k z => hw a k (Or.inr (Or.inr z))) hK.2.2⟩
theorem st_lt : ∀ q ∈ statR, q.1 < 74 := by decide
theorem WPC_st (Y : OW) : ∀ q ∈ statR, ¬ WPC Y q.1 q.2.1 := by
  intro q hq
  have h1 := st_lt q hq
  have h2 := (by unfold Wal; decide : ∀ q ∈ statR, ¬ ((q.1 = 21 ∧ q.2.1 = 0) ∨ q.1 = 22 ∨ q.1 = 23 ∨ (q.1 = 0 ∧ q.2.1 = 3) ∨ q.1 = 24 ∨ q.1 = 26 ∨ q.1 = 27 ∨ q.1 = 28 ∨ (q.1 = 25 ∧ (q.2.1 = 0 ∨ q.2.1 = 1)) ∨ Wal q.1 q.2.1)) q hq
  unfold WPC WRc WPc WHc
  intro z
  apply h2
  unfold Wal at *
  omega
def flF (f : Nat → Int32) (v : Int32) (n : Nat) : Nat → Int32 := fun x => if x < n then v else f x
theorem flF_0 (f : Nat → Int32) (v : Int32) : flF f v 0 = f := by
  funext x
  unfold flF
  rw [if_neg (by omega)]
theorem flF_s (f : Nat → Int32) (v : Int32) (n : Nat) : va_up (flF f v n) n v = flF f v (n + 1) := by
  funext x
  unfold flF va_up
  by_cases h1 : x = n
  · rw [if_pos h1, if_pos (by omega)]
  · rw [if_neg h1]
    show (if x < n then v else f x) = _
    by_cases h2 : x < n
    · rw [if_pos h2, if_pos (by omega)]
    · rw [if_neg h2, if_neg (by omega)]
theorem flF_in {f : Nat → Int32} {v : Int32} {n k : Nat} (h : k < n) : flF f v n k = v := by
  unfold flF
  rw [if_pos h]
theorem jd_fillI_L {S : mj_S} {h : mj_H} {a m : Nat} {v : Int32} (ht : mT h a = some (0, m)) (hm : m ≤ 1000000) : ∀ d k : Nat, k + d = m → Ex S jd_fillI 5 [some (.ref (a)), some (.int (v)), some (.int (nI (k))), some (.int (nI (m)))] [] (wA h a (flF (mI h a) v (k))) (fun r h' => r = none ∧ h' = (wA h a (flF (mI h a) v (m)))) := by
  intro d
  induction d with
  | zero =>
    intro k hk
    obtain rfl : k = m := by omega
    refine Ex_iload_n d_jd_fillI_5 rfl ?_
    refine Ex_iload_n d_jd_fillI_6 rfl ?_
    refine Ex_icmp_geN (k) (k) 20 d_jd_fillI_7 rfl rfl rfl (by omega) (by omega) (fun hc7 => ?_) (fun hc7 => ?_)
    · refine Ex_return d_jd_fillI_20 rfl ?_
      exact ⟨rfl, rfl⟩
    · exfalso; omega
  | succ d ih =>
    intro k hk
    refine Ex_iload_n d_jd_fillI_5 rfl ?_
    refine Ex_iload_n d_jd_fillI_6 rfl ?_
    refine Ex_icmp_geN (k) (m) 20 d_jd_fillI_7 rfl rfl rfl (by omega) (by omega) (fun hc7 => ?_) (fun hc7 => ?_)
    · exfalso; omega
    · refine Ex_aload_n d_jd_fillI_10 rfl ?_
      refine Ex_iload_n d_jd_fillI_11 rfl ?_
      refine Ex_iload_n d_jd_fillI_12 rfl ?_
      refine Ex_iastoreN (a := k) d_jd_fillI_13 ht rfl (by omega) (by omega) ?_
      refine Ex_iincN (k) 1 [some (.ref (a)), some (.int (v)), some (.int (nI (k + 1))), some (.int (nI (m)))] d_jd_fillI_14 rfl rfl rfl rfl ?_
      refine Ex_goto 5 d_jd_fillI_17 rfl ?_
      rw [wI_wA, flF_s]
      exact ih (k + 1) (by omega)
theorem jd_fillI_s {S : mj_S} {h : mj_H} {a m : Nat} {v : Int32} (ht : mT h a = some (0, m)) (hm : m ≤ 1000000) : Cl S jd_fillI [.ref (a), .int (v)] h (fun r h' => r = none ∧ h' = (wA h a (flF (mI h a) v (m)))) := by
  show Ex S jd_fillI 0 [some (.ref (a)), some (.int (v)), none, none] [] h _
  refine Ex_iconst d_jd_fillI_0 ic_0 ?_
  refine Ex_istore_n [some (.ref (a)), some (.int (v)), some (.int (0)), none] d_jd_fillI_1 (Nat.le_of_ble_eq_true rfl) rfl ?_
  refine Ex_aload_n d_jd_fillI_2 rfl ?_
  refine Ex_arraylength d_jd_fillI_3 ht (by decide) ?_
  refine Ex_istore_n [some (.ref (a)), some (.int (v)), some (.int (0)), some (.int (nI (m)))] d_jd_fillI_4 (Nat.le_of_ble_eq_true rfl) rfl ?_
  refine Ex_heq (h' := (wA h a (flF (mI h a) v (0)))) (by rw [flF_0, wA_self]) ?_
  exact jd_fillI_L ht hm m 0 (by omega)
theorem jd_min_s {S : mj_S} {h : mj_H} {a b : Nat} (ha : a < 2147483648) (hb : b < 2147483648) : Cl S jd_min [.int (nI (a)), .int (nI (b))] h (Pu (.int (nI (min a b))) h) := by
  show Ex S jd_min 0 [some (.int (nI (a))), some (.int (nI (b)))] [] h _
  refine Ex_iload_n d_jd_min_0 rfl ?_
  refine Ex_iload_n d_jd_min_1 rfl ?_
  refine Ex_icmp_gtN (a) (b) 9 d_jd_min_2 rfl rfl rfl (by omega) (by omega) (fun hc2 => ?_) (fun hc2 => ?_)
  · refine Ex_iload_n d_jd_min_9 rfl ?_
    refine Ex_ireturn d_jd_min_10 rfl ?_
    exact Pu_n (by omega)
  · refine Ex_iload_n d_jd_min_5 rfl ?_
    refine Ex_goto 10 d_jd_min_6 rfl ?_
    refine Ex_ireturn d_jd_min_10 rfl ?_
    exact Pu_n (by omega)
theorem jd_min_z {S : mj_S} {h : mj_H} {a b : Int} (ha : -2147483648 ≤ a ∧ a < 2147483648) (hb : -2147483648 ≤ b ∧ b < 2147483648) : Cl S jd_min [.int (J (a)), .int (J (b))] h (Pu (.int (J (min a b))) h) := by
  show Ex S jd_min 0 [some (.int (J (a))), some (.int (J (b)))] [] h _
  refine Ex_iload_n d_jd_min_0 rfl ?_
  refine Ex_iload_n d_jd_min_1 rfl ?_
  refine Ex_icmp_gtZ (a) (b) 9 d_jd_min_2 rfl rfl rfl (by omega) (by omega) (fun hc2 => ?_) (fun hc2 => ?_)
  · refine Ex_iload_n d_jd_min_9 rfl ?_
    refine Ex_ireturn d_jd_min_10 rfl ?_
    exact Pu_z (by omega)
  · refine Ex_iload_n d_jd_min_5 rfl ?_
    refine Ex_goto 10 d_jd_min_6 rfl ?_
    refine Ex_ireturn d_jd_min_10 rfl ?_
    exact Pu_z (by omega)
theorem jd_max_s {S : mj_S} {h : mj_H} {a b : Nat} (ha : a < 2147483648) (hb : b < 2147483648) : Cl S jd_max [.int (nI (a)), .int (nI (b))] h (Pu (.int (nI (max a b))) h) := by
  show Ex S jd_max 0 [some (.int (nI (a))), some (.int (nI (b)))] [] h _
  refine Ex_iload_n d_jd_max_0 rfl ?_
  refine Ex_iload_n d_jd_max_1 rfl ?_
  refine Ex_icmp_ltN (a) (b) 9 d_jd_max_2 rfl rfl rfl (by omega) (by omega) (fun hc2 => ?_) (fun hc2 => ?_)
  · refine Ex_iload_n d_jd_max_9 rfl ?_
    refine Ex_ireturn d_jd_max_10 rfl ?_
    exact Pu_n (by omega)
  · refine Ex_iload_n d_jd_max_5 rfl ?_
    refine Ex_goto 10 d_jd_max_6 rfl ?_
    refine Ex_ireturn d_jd_max_10 rfl ?_
    exact Pu_n (by omega)
theorem jd_max_z {S : mj_S} {h : mj_H} {a b : Int} (ha : -2147483648 ≤ a ∧ a < 2147483648) (hb : -2147483648 ≤ b ∧ b < 2147483648) : Cl S jd_max [.int (J (a)), .int (J (b))] h (Pu (.int (J (max a b))) h) := by
  show Ex S jd_max 0 [some (.int (J (a))), some (.int (J (b)))] [] h _
  refine Ex_iload_n d_jd_max_0 rfl ?_
  refine Ex_iload_n d_jd_max_1 rfl ?_
  refine Ex_icmp_ltZ (a) (b) 9 d_jd_max_2 rfl rfl rfl (by omega) (by omega) (fun hc2 => ?_) (fun hc2 => ?_)
  · refine Ex_iload_n d_jd_max_9 rfl ?_
    refine Ex_ireturn d_jd_max_10 rfl ?_
    exact Pu_z (by omega)
  · refine Ex_iload_n d_jd_max_5 rfl ?_
    refine Ex_goto 10 d_jd_max_6 rfl ?_
    refine Ex_ireturn d_jd_max_10 rfl ?_
    exact Pu_z (by omega)
theorem rs_mayBe_s {S : mj_S} {h : mj_H} {l z : Int} (hl : -2147483648 ≤ l ∧ l < 2147483648) (hz : -2147483648 ≤ z ∧ z < 2147483648) : Cl S rs_mayBe [.int (J (l)), .int (J (z))] h (Pu (.int (bI (decide (0 ≤ l ∧ l ≤ 60 ∧ -30 ≤ z ∧ z ≤ 30)))) h) := by
  show Ex S rs_mayBe 0 [some (.int (J (l))), some (.int (J (z)))] [] h _
  refine Ex_iload_n d_rs_mayBe_0 rfl ?_
  refine Ex_if_ltZ (l) 26 d_rs_mayBe_1 rfl rfl (by omega) (fun hc1 => ?_) (fun hc1 => ?_)
  · refine Ex_iconst d_rs_mayBe_26 ic_0 ?_
    refine Ex_zreturn d_rs_mayBe_27 rfl (by decide) ?_
    exact Pu_f (by omega)
  · refine Ex_iload_n d_rs_mayBe_4 rfl ?_
    refine Ex_bipush d_rs_mayBe_5 bp_60 ?_
    refine Ex_icmp_gtZ (l) ((60)) 26 d_rs_mayBe_7 rfl rfl (by decide) (by omega) (by omega) (fun hc7 => ?_) (fun hc7 => ?_)
    · refine Ex_iconst d_rs_mayBe_26 ic_0 ?_
      refine Ex_zreturn d_rs_mayBe_27 rfl (by decide) ?_
      exact Pu_f (by omega)
    · refine Ex_iload_n d_rs_mayBe_10 rfl ?_
      refine Ex_bipush d_rs_mayBe_11 bp_m30 ?_
      refine Ex_icmp_ltZ (z) ((-30)) 26 d_rs_mayBe_13 rfl rfl (by decide) (by omega) (by omega) (fun hc13 => ?_) (fun hc13 => ?_)
      · refine Ex_iconst d_rs_mayBe_26 ic_0 ?_
        refine Ex_zreturn d_rs_mayBe_27 rfl (by decide) ?_
        exact Pu_f (by omega)
      · refine Ex_iload_n d_rs_mayBe_16 rfl ?_
        refine Ex_bipush d_rs_mayBe_17 bp_30 ?_
        refine Ex_icmp_gtZ (z) ((30)) 26 d_rs_mayBe_19 rfl rfl (by decide) (by omega) (by omega) (fun hc19 => ?_) (fun hc19 => ?_)
        · refine Ex_iconst d_rs_mayBe_26 ic_0 ?_
          refine Ex_zreturn d_rs_mayBe_27 rfl (by decide) ?_
          exact Pu_f (by omega)
        · refine Ex_iconst d_rs_mayBe_22 ic_1 ?_
          refine Ex_goto 27 d_rs_mayBe_23 rfl ?_
          refine Ex_zreturn d_rs_mayBe_27 rfl (by decide) ?_
          exact Pu_t (by omega)
theorem rs_left_s {S : mj_S} {h : mj_H} (hs : HT h) {P : SP} {Y : OW} (hR : RwC P Y h) {n : Nat} (hQ : PO n P) : Cl S rs_left [.ref 21] h (Pu (.int (nI (6000 - pMd P))) h) := by
  show Ex S rs_left 0 [some (.ref 21)] [] h _
  have hmd : pMd P ≤ 6000 := hQ.1
  refine Ex_sipush d_rs_left_0 sp_6000 ?_
  refine Ex_aload_n d_rs_left_3 rfl ?_
  refine Ex_getIE d_rs_left_4 pf_rs_20 rfl (t_21 hs) hR.1 ?_
  refine Ex_isubN (6000) (pMd P) d_rs_left_7 rfl rfl (by omega) ?_
  refine Ex_ireturn d_rs_left_8 rfl ?_
  exact Pu_n rfl
def WRe (a k : Nat) : Prop := (a = 21 ∧ k = 0) ∨ a = 22 ∨ a = 23
theorem rs_enter_s {S : mj_S} {h : mj_H} (hs : HT h) {P : SP} {Y : OW} (hR : RwC P Y h) {n : Nat} (hQ : PO n P) (hm : pMd P < 6000) {x L : Nat} {z : Int} {c : Nat → Tl} (hx : 74 ≤ x ∧ Y x = (0, pMd P)) (ht : mT h x = some (0, L)) (hc : ∀ k, k < L → mI h x k = eC (c k)) : Cl S rs_enter [.ref 21, .ref (x), .int (J (z))] h (fun r h' => r = some (.int (nI (pMd P))) ∧ RwC (newR P L z c) Y h' ∧ Fr WRe h h') := by
  show Ex S rs_enter 0 [some (.ref 21), some (.ref (x)), some (.int (J (z)))] [] h _
  refine Ex_aload_n d_rs_enter_0 rfl ?_
  refine Ex_getR d_rs_enter_1 pf_rs_16 rfl (t_21 hs) (r_21_2 hs) ?_
  refine Ex_aload_n d_rs_enter_4 rfl ?_
  refine Ex_getIE d_rs_enter_5 pf_rs_20 rfl (t_21 hs) hR.1 ?_
  refine Ex_aload_n d_rs_enter_8 rfl ?_
  refine Ex_aastoreAN (a := pMd P) d_rs_enter_9 (t_23 hs) ht rfl (by omega) (by decide) ?_
  have hs1 : HT (wR h 23 (pMd P) (some (x))) := HT_wR hs (by omega)
  refine Ex_aload_n d_rs_enter_10 rfl ?_
  refine Ex_getR d_rs_enter_11 pf_rs_11 rfl (t_21 hs1) (r_21_1 hs1) ?_
  refine Ex_aload_n d_rs_enter_14 rfl ?_
  refine Ex_getIE d_rs_enter_15 pf_rs_20 rfl (t_21 hs1) hR.1 ?_
  refine Ex_iload_n d_rs_enter_18 rfl ?_
  refine Ex_iastoreN (a := pMd P) d_rs_enter_19 (t_22 hs1) rfl (by omega) (by decide) ?_
  refine Ex_aload_n d_rs_enter_20 rfl ?_
  refine Ex_dup rfl d_rs_enter_21 ?_
  refine Ex_getIE d_rs_enter_22 pf_rs_20 rfl (t_21 hs1) hR.1 ?_
  refine Ex_iconst d_rs_enter_25 ic_1 ?_
  refine Ex_iaddN (pMd P) (1) d_rs_enter_26 rfl rfl ?_
  refine Ex_putI d_rs_enter_27 pf_rs_20 (Or.inl rfl) (t_21 hs1) (Or.inl rfl) ?_
  refine Ex_aload_n d_rs_enter_30 rfl ?_
  refine Ex_getIE d_rs_enter_31 pf_rs_20 rfl (t_21 hs1) rfl ?_
  refine Ex_iconst d_rs_enter_34 ic_1 ?_
  refine Ex_isubN (pMd P + 1) (1) d_rs_enter_35 rfl rfl (by omega) ?_
  refine Ex_ireturn d_rs_enter_36 rfl ?_
  refine ⟨by rw [show pMd P + 1 - 1 = pMd P by omega], ⟨rfl, fun r hr => ?_⟩, ?_⟩
  · have hr : r < pMd P + 1 := hr
    by_cases hrm : r = pMd P
    · subst hrm
      refine ⟨x, hx, by simp [mR_wR, va_up, mR, wI, wA, wR], by rw [newR_Ln]; exact ht, by rw [newR_On]; simp [mI_wI], fun k hk => ?_⟩
      rw [newR_Ln] at hk
      rw [newR_Cn, mI_wI, if_neg (by omega), mI_wI, if_neg (by omega)]
      exact hc k hk
    · obtain ⟨y, y1, y2, y3, y4, y5⟩ := hR.2 r (by omega)
      have hy74 := y1.1
      refine ⟨y, y1, ?_, by rw [newR_Lo (by omega)]; exact y3, ?_, fun k hk => ?_⟩
      · show mR (wR h 23 (pMd P) (some x)) 23 r = _
        rw [mR_wR, if_pos rfl]
        unfold va_up
        rw [if_neg hrm]
        exact y2
      · rw [newR_Oo (by omega), mI_wI, if_neg (by omega), mI_wI, if_pos rfl, if_neg hrm]; exact y4
      · rw [newR_Lo (by omega)] at hk
        rw [newR_Co (by omega), mI_wI, if_neg (by omega), mI_wI, if_neg (by omega)]
        exact y5 k hk
  · exact Fr.sI (Fr.sI (Fr.sR Fr.rf (by unfold WRe; omega)) (by unfold WRe; omega)) (by unfold WRe; omega)
