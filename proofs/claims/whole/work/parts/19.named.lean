/-! Frames; named and kind. -/
/-- what was there stays, but for the places that W names; cells are made only if W has the place 0, 1000000000 -/
def Fr (W : Nat → Nat → Prop) (h h' : mj_H) : Prop := ((∀ a t, mT h a = some t → mT h' a = some t) ∧ (W 0 1000000000 ∨ h'.1 = h.1)) ∧ ∀ a k, a < mN h → ¬ W a k → mI h' a k = mI h a k ∧ mL h' a k = mL h a k ∧ mR h' a k = mR h a k
theorem Fr.rf {W : Nat → Nat → Prop} {h : mj_H} : Fr W h h := ⟨⟨fun _ _ h => h, Or.inr rfl⟩, fun _ _ _ _ => ⟨rfl, rfl, rfl⟩⟩
theorem Fr.le {W : Nat → Nat → Prop} {h h' : mj_H} (f : Fr W h h') : mN h ≤ mN h' := by
  rcases Nat.lt_or_ge (mN h') (mN h) with z | z
  · exfalso
    have : ∃ t, mT h (mN h') = some t := by
      unfold mT
      exact ⟨_, List.getElem?_eq_getElem z⟩
    obtain ⟨t, ht⟩ := this
    have := f.1.1 _ _ ht
    have := (List.getElem?_eq_some_iff.mp this).1
    unfold mN at *
    omega
  · exact z
theorem Fr.tr {W : Nat → Nat → Prop} {h h1 h2 : mj_H} (f : Fr W h h1) (g : Fr W h1 h2) : Fr W h h2 := by
  refine ⟨⟨fun a t z => g.1.1 a t (f.1.1 a t z), ?_⟩, fun a k ha hw => ?_⟩
  · rcases f.1.2 with x | x
    · exact Or.inl x
    · rcases g.1.2 with y | y
      · exact Or.inl y
      · exact Or.inr (y.trans x)
  obtain ⟨a1, a2, a3⟩ := f.2 a k ha hw
  obtain ⟨b1, b2, b3⟩ := g.2 a k (Nat.lt_of_lt_of_le ha f.le) hw
  exact ⟨b1.trans a1, b2.trans a2, b3.trans a3⟩
theorem Fr.mono {W V : Nat → Nat → Prop} {h h1 : mj_H} (f : Fr W h h1) (hv : ∀ a k, W a k → V a k) : Fr V h h1 := ⟨⟨f.1.1, f.1.2.imp (hv _ _) id⟩, fun a k ha hw => f.2 a k ha (fun z => hw (hv a k z))⟩
theorem Fr.sI {W : Nat → Nat → Prop} {h h1 : mj_H} (f : Fr W h h1) {a k : Nat} {v : Int32} (hw : W a k) : Fr W h (wI h1 a k v) := by
  refine ⟨f.1, fun b j hb hn => ?_⟩
  obtain ⟨a1, a2, a3⟩ := f.2 b j hb hn
  refine ⟨?_, a2, a3⟩
  rw [mI_wI]
  split
  · rename_i e
    subst e
    split
    · rename_i e
      subst e
      exact absurd hw hn
    · exact a1
  · exact a1
theorem Fr.sA {W : Nat → Nat → Prop} {h h1 : mj_H} (f : Fr W h h1) {a : Nat} {g : Nat → Int32} (hw : ∀ k, ¬ W a k → g k = mI h1 a k) : Fr W h (wA h1 a g) := by
  refine ⟨f.1, fun b j hb hn => ?_⟩
  obtain ⟨a1, a2, a3⟩ := f.2 b j hb hn
  refine ⟨?_, a2, a3⟩
  rw [mI_wA]
  split
  · rename_i e
    subst e
    rw [hw j hn]; exact a1
  · exact a1
theorem Fr.sL {W : Nat → Nat → Prop} {h h1 : mj_H} (f : Fr W h h1) {a k : Nat} {v : Int64} (hw : W a k) : Fr W h (wL h1 a k v) := by
  refine ⟨f.1, fun b j hb hn => ?_⟩
  obtain ⟨a1, a2, a3⟩ := f.2 b j hb hn
  refine ⟨a1, ?_, a3⟩
  rw [mL_wL]
  split
  · rename_i e
    subst e
    unfold va_up
    split
    · rename_i e
      subst e
      exact absurd hw hn
    · exact a2
  · exact a2
theorem Fr.sR {W : Nat → Nat → Prop} {h h1 : mj_H} (f : Fr W h h1) {a k : Nat} {v : Option Nat} (hw : W a k) : Fr W h (wR h1 a k v) := by
  refine ⟨f.1, fun b j hb hn => ?_⟩
  obtain ⟨a1, a2, a3⟩ := f.2 b j hb hn
  refine ⟨a1, a2, ?_⟩
  rw [mR_wR]
  split
  · rename_i e
    subst e
    unfold va_up
    split
    · rename_i e
      subst e
      exact absurd hw hn
    · exact a3
  · exact a3
theorem Fr.nw {W : Nat → Nat → Prop} {h h1 : mj_H} (f : Fr W h h1) (hw : W 0 1000000000) (t n : Nat) : Fr W h (mNew h1 t n) := by
  refine ⟨⟨fun a x hx => mT_new_old (f.1.1 a x hx), Or.inl hw⟩, fun b j hb hn => ?_⟩
  obtain ⟨a1, a2, a3⟩ := f.2 b j hb hn
  have hne : b ≠ mN h1 := by have := f.le; omega
  exact ⟨by rw [mI_new, if_neg hne]; exact a1, by rw [mL_new, if_neg hne]; exact a2, by rw [mR_new, if_neg hne]; exact a3⟩
theorem Fr.ht {W : Nat → Nat → Prop} {h h' : mj_H} (f : Fr W h h') (hs : HT h) (hw : ∀ q ∈ statR, ¬ W q.1 q.2.1) : HT h' := by
  refine ⟨fun k t hk => f.1.1 k t (hs.1 k t hk), fun q hq => ?_⟩
  have hlt : q.1 < 74 := (by decide : ∀ q ∈ statR, q.1 < 74) q hq
  have hn := HT_n hs
  rw [(f.2 q.1 q.2.1 (by omega) (hw q hq)).2.2]
  exact hs.2 q hq
theorem Fr.sz {W : Nat → Nat → Prop} {h h' : mj_H} (f : Fr W h h') (hw : ¬ W 0 1000000000) : h'.1 = h.1 := f.1.2.resolve_left hw
theorem Fr.nz {W : Nat → Nat → Prop} {h h' : mj_H} (f : Fr W h h') (hw : ¬ W 0 1000000000) : mN h' = mN h ∧ mZ h' = mZ h := by
  unfold mN mZ
  rw [f.sz hw]
  exact ⟨rfl, rfl⟩
/-- the first kind from k on, of d more, with this name -/
def nmF (f : Nat → Int64) (x : Int64) : Nat → Nat → Int
  | 0, _ => -1
  | d + 1, k => if f k = x then k else nmF f x d (k + 1)
theorem nmF_r (f : Nat → Int64) (x : Int64) : ∀ d k, -1 ≤ nmF f x d k ∧ nmF f x d k < (k + d : Nat)
  | 0, k => by simp [nmF]; omega
  | d + 1, k => by
    have := nmF_r f x d (k + 1)
    unfold nmF
    split <;> omega
theorem nmF_0 (f : Nat → Int64) (x : Int64) : ∀ d k, (∀ j, k ≤ j → j < k + d → f j ≠ x) → nmF f x d k = -1
  | 0, k, _ => rfl
  | d + 1, k, h => by
    unfold nmF
    rw [if_neg (h k (by omega) (by omega))]
    exact nmF_0 f x d (k + 1) (fun j h1 h2 => h j (by omega) (by omega))
def nameS (K : SK) (its : Int64) : Int := nmF (kN K) its K.1 0
def KN (K : SK) : Prop := ∀ k, k < K.1 → kN K k ≠ 0
theorem nameS_0 {K : SK} (h : KN K) : nameS K 0 = -1 := nmF_0 _ _ _ _ (fun j _ h2 => h j (by omega))
theorem ki_withLetters_L {S : mj_S} {h : mj_H} (hs : HT h) {K : SK} (hK : KC K h) (hO : KO K) (x : Int64) : ∀ (d k : Nat), k + d = K.1 → Ex S ki_withLetters 2 [some (.ref 1), some (.long x), none, some (.int (nI k))] [] h (Pu (.int (J (nmF (kN K) x d k))) h) := by
  intro d
  have hn40 := hO.1
  induction d with
  | zero =>
    intro k hk
    refine Ex_iload_n d_ki_withLetters_2 rfl ?_
    refine Ex_aload_n d_ki_withLetters_3 rfl ?_
    refine Ex_getIE d_ki_withLetters_4 pf_ki_36 rfl (t_1 hs) hK.1 ?_
    refine Ex_icmp_geN (k) (K.1) 29 d_ki_withLetters_7 rfl rfl rfl (by omega) (by omega) (fun hc7 => ?_) (fun hc7 => ?_)
    · refine Ex_iconst d_ki_withLetters_29 ic_m1 ?_
      refine Ex_ireturn d_ki_withLetters_30 rfl ?_
      exact Pu_m1 rfl
    · exfalso; omega
  | succ d ih =>
    intro k hk
    refine Ex_iload_n d_ki_withLetters_2 rfl ?_
    refine Ex_aload_n d_ki_withLetters_3 rfl ?_
    refine Ex_getIE d_ki_withLetters_4 pf_ki_36 rfl (t_1 hs) hK.1 ?_
    refine Ex_icmp_geN (k) (K.1) 29 d_ki_withLetters_7 rfl rfl rfl (by omega) (by omega) (fun hc7 => ?_) (fun hc7 => ?_)
    · exfalso; omega
    · refine Ex_aload_n d_ki_withLetters_10 rfl ?_
      refine Ex_getR d_ki_withLetters_11 pf_ki_25 rfl (t_1 hs) (r_1_5 hs) ?_
      refine Ex_iload_n d_ki_withLetters_14 rfl ?_
      refine Ex_laloadN (a := k) d_ki_withLetters_15 (t_6 hs) rfl (by omega) (by decide) (hK.2 (k) (by omega)).2.2.2.2 ?_
      refine Ex_lload_n d_ki_withLetters_16 rfl ?_
      refine Ex_lcmp d_ki_withLetters_17 ?_
      refine Ex_if_neL 23 d_ki_withLetters_18 rfl (fun hc18 => ?_) (fun hc18 => ?_)
      · refine Ex_iincN (k) 1 [some (.ref 1), some (.long (x)), none, some (.int (nI (k + 1)))] d_ki_withLetters_23 rfl rfl rfl rfl ?_
        refine Ex_goto 2 d_ki_withLetters_26 rfl ?_
        unfold nmF
        rw [if_neg (by assumption)]
        exact ih (k + 1) (by omega)
      · refine Ex_iload_n d_ki_withLetters_21 rfl ?_
        refine Ex_ireturn d_ki_withLetters_22 rfl ?_
        exact Pu_nz (by unfold nmF; rw [if_pos (by assumption)])
theorem ki_withLetters_s {S : mj_S} {h : mj_H} (hs : HT h) {K : SK} (hK : KC K h) (hO : KO K) (x : Int64) : Cl S ki_withLetters [.ref 1, .long (x)] h (Pu (.int (J (nameS K x))) h) := by
  show Ex S ki_withLetters 0 [some (.ref 1), some (.long (x)), none, none] [] h _
  refine Ex_iconst d_ki_withLetters_0 ic_0 ?_
  refine Ex_istore_n [some (.ref 1), some (.long (x)), none, some (.int (0))] d_ki_withLetters_1 (Nat.le_of_ble_eq_true rfl) rfl ?_
  exact ki_withLetters_L hs hK hO x K.1 0 (by omega)
theorem rm_named_L {S : mj_S} {h : mj_H} (hs : HT h) {K : SK} (hK : KM K h) (hO : KO K) (name x : Int64) (hx : x ≠ 0) : ∀ (d k : Nat), k + d = K.1 → Ex S rm_named 8 [some (.ref 38), some (.long name), none, some (.long x), none, some (.int (nI k))] [] h (Pu (.int (J (nmF (kN K) x d k))) h) := by
  intro d
  have hn40 := hO.1
  induction d with
  | zero =>
    intro k hk
    refine Ex_iload d_rm_named_8 rfl ?_
    refine Ex_aload_n d_rm_named_10 rfl ?_
    refine Ex_getIE d_rm_named_11 pf_rm_128 rfl (t_38 hs) hK.1 ?_
    refine Ex_icmp_geN (k) (K.1) 44 d_rm_named_14 rfl rfl rfl (by omega) (by omega) (fun hc14 => ?_) (fun hc14 => ?_)
    · refine Ex_iconst d_rm_named_44 ic_m1 ?_
      refine Ex_ireturn d_rm_named_45 rfl ?_
      exact Pu_m1 rfl
    · exfalso; omega
  | succ d ih =>
    intro k hk
    refine Ex_iload d_rm_named_8 rfl ?_
    refine Ex_aload_n d_rm_named_10 rfl ?_
    refine Ex_getIE d_rm_named_11 pf_rm_128 rfl (t_38 hs) hK.1 ?_
    refine Ex_icmp_geN (k) (K.1) 44 d_rm_named_14 rfl rfl rfl (by omega) (by omega) (fun hc14 => ?_) (fun hc14 => ?_)
    · exfalso; omega
    · refine Ex_lload_n d_rm_named_17 rfl ?_
      refine Ex_lconst d_rm_named_18 lc_0 ?_
      refine Ex_lcmp d_rm_named_19 ?_
      refine Ex_if_eqL 44 d_rm_named_20 rfl (fun hc20 => ?_) (fun hc20 => ?_)
      · exact absurd hc20 hx
      · refine Ex_aload_n d_rm_named_23 rfl ?_
        refine Ex_getR d_rm_named_24 pf_rm_23 rfl (t_38 hs) (r_38_4 hs) ?_
        refine Ex_iload d_rm_named_27 rfl ?_
        refine Ex_laloadN (a := k) d_rm_named_29 (t_43 hs) rfl (by omega) (by decide) (hK.2 (k) (by omega)).2.2.2.2 ?_
        refine Ex_lload_n d_rm_named_30 rfl ?_
        refine Ex_lcmp d_rm_named_31 ?_
        refine Ex_if_neL 38 d_rm_named_32 rfl (fun hc32 => ?_) (fun hc32 => ?_)
        · refine Ex_iincN (k) 1 [some (.ref 38), some (.long (name)), none, some (.long (x)), none, some (.int (nI (k + 1)))] d_rm_named_38 rfl rfl rfl rfl ?_
          refine Ex_goto 8 d_rm_named_41 rfl ?_
          unfold nmF
          rw [if_neg (by assumption)]
          exact ih (k + 1) (by omega)
        · refine Ex_iload d_rm_named_35 rfl ?_
          refine Ex_ireturn d_rm_named_37 rfl ?_
          exact Pu_nz (by unfold nmF; rw [if_pos (by assumption)])
theorem rm_named_s {S : mj_S} {h : mj_H} (hs : HT h) {K : SK} (hK : KM K h) (hO : KO K) (hN : KN K) (name : Int64) : Cl S rm_named [.ref 38, .long (name)] h (Pu (.int (J (nameS K (plS name 8 0)))) h) := by
  show Ex S rm_named 0 [some (.ref 38), some (.long (name)), none, none, none, none] [] h _
  refine Ex_lload_n d_rm_named_0 rfl ?_
  refine Ex_pS1 d_rm_named_1 pk_rm_named_124 (rm_plain_s name) ?_
  refine Ex_lstore_n [some (.ref 38), some (.long (name)), none, some (.long (plS name 8 0)), none, none] d_rm_named_4 (Nat.le_of_ble_eq_true rfl) rfl ?_
  refine Ex_iconst d_rm_named_5 ic_0 ?_
  refine Ex_istore [some (.ref 38), some (.long (name)), none, some (.long (plS name 8 0)), none, some (.int (0))] d_rm_named_6 (Nat.le_of_ble_eq_true rfl) rfl ?_
  by_cases hx : plS name 8 0 = 0
  · rw [hx, nameS_0 hN]
    refine Ex_iload d_rm_named_8 rfl ?_
    refine Ex_aload_n d_rm_named_10 rfl ?_
    refine Ex_getIE d_rm_named_11 pf_rm_128 rfl (t_38 hs) hK.1 ?_
    refine Ex_icmp_geN (0) (K.1) 44 d_rm_named_14 rfl rfl rfl (by (have := hO.1; omega)) (by (have := hO.1; omega)) (fun hc14 => ?_) (fun hc14 => ?_)
    · refine Ex_iconst d_rm_named_44 ic_m1 ?_
      refine Ex_ireturn d_rm_named_45 rfl ?_
      exact Pu_m1 rfl
    · refine Ex_lload_n d_rm_named_17 rfl ?_
      refine Ex_lconst d_rm_named_18 lc_0 ?_
      refine Ex_lcmp d_rm_named_19 ?_
      refine Ex_if_eqL 44 d_rm_named_20 rfl (fun hc20 => ?_) (fun hc20 => ?_)
      · refine Ex_iconst d_rm_named_44 ic_m1 ?_
        refine Ex_ireturn d_rm_named_45 rfl ?_
        exact Pu_m1 rfl
      · exact absurd rfl hc20
  · exact rm_named_L hs hK hO name _ hx K.1 0 (by omega)
theorem to_named_s {S : mj_S} {h : mj_H} (hs : HT h) {K : SK} (hK : KC K h) (hO : KO K) (name : Int64) : Cl S to_named [.ref 0, .long (name)] h (Pu (.int (J (nameS K (plS name 8 0)))) h) := by
  show Ex S to_named 0 [some (.ref 0), some (.long (name)), none] [] h _
  refine Ex_aload_n d_to_named_0 rfl ?_
  refine Ex_getR d_to_named_1 pf_to_20 rfl (t_0 hs) (r_0_0 hs) ?_
  refine Ex_lload_n d_to_named_4 rfl ?_
  refine Ex_pS1 d_to_named_5 pk_to_named_90 (ki_lettersOf_s name) ?_
  refine Ex_pV1 d_to_named_8 pk_to_named_102 (t_1 hs) (ki_withLetters_s hs hK hO _) ?_
  refine Ex_ireturn d_to_named_11 rfl ?_
  exact ⟨rfl, rfl⟩
