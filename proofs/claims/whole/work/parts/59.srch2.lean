/-! The reference: lay, takeBack, leastCost, nextPlace, show, starts. -/
def EnO (p : Nat → Prop) (N n : Nat) (o : Nat → Nat) : Prop := (∀ i, i < n → o i < N ∧ p (o i)) ∧ (∀ i j, i < j → j < n → o i < o j) ∧ ∀ k, k < N → p k → ∃ i, i < n ∧ o i = k
def oN (N n : Nat) (o : Nat → Nat) (j : Nat) : Nat := if j < n then o j else N
theorem EnO_ge {p : Nat → Prop} {N n : Nat} {o : Nat → Nat} (h : EnO p N n o) : ∀ i, i < n → i ≤ o i
  | 0, _ => Nat.zero_le _
  | i + 1, hi => by
    have := EnO_ge h i (by omega)
    have := h.2.1 i (i + 1) (by omega) hi
    omega
theorem EnO_le {p : Nat → Prop} {N n : Nat} {o : Nat → Nat} (h : EnO p N n o) : n ≤ N := by
  by_cases hn : n = 0
  · omega
  · have := EnO_ge h (n - 1) (by omega)
    have := (h.1 (n - 1) (by omega)).1
    omega
theorem EnO_le0 {p : Nat → Prop} {N n : Nat} {o : Nat → Nat} (h : EnO p N n o) {i j : Nat} (hij : i ≤ j) (hj : j < n) : o i ≤ o j := by
  by_cases z : i = j
  · rw [z]; omega
  · have := h.2.1 i j (by omega) hj
    omega
theorem EnO_gap {p : Nat → Prop} {N n : Nat} {o : Nat → Nat} (h : EnO p N n o) {j : Nat} (hj : j < n) : ∀ k, o j + 1 ≤ k → k < oN N n o (j + 1) → ¬ p k := by
  intro k h1 h2 hp
  unfold oN at h2
  split at h2
  · rename_i hc
    obtain ⟨i, hi, rfl⟩ := h.2.2 k (by have := (h.1 _ hc).1; omega) hp
    by_cases hij : i ≤ j
    · have := EnO_le0 h hij hj; omega
    · have := EnO_le0 h (show j + 1 ≤ i by omega) hi; omega
  · rename_i hc
    obtain ⟨i, hi, rfl⟩ := h.2.2 k h2 hp
    have := EnO_le0 h (show i ≤ j by omega) hj
    omega
theorem EnO_gap0 {p : Nat → Prop} {N n : Nat} {o : Nat → Nat} (h : EnO p N n o) : ∀ k, k < oN N n o 0 → ¬ p k := by
  intro k h2 hp
  unfold oN at h2
  split at h2
  · rename_i hc
    obtain ⟨i, hi, rfl⟩ := h.2.2 k (by have := (h.1 _ hc).1; omega) hp
    have := EnO_le0 h (show 0 ≤ i by omega) hi; omega
  · rename_i hc
    obtain ⟨i, hi, rfl⟩ := h.2.2 k h2 hp
    omega
theorem EnO_z (p : Nat → Prop) (o : Nat → Nat) : EnO p 0 0 o := ⟨fun i h => absurd h (Nat.not_lt_zero _), fun i j _ h => absurd h (Nat.not_lt_zero _), fun k h => absurd h (Nat.not_lt_zero _)⟩
theorem EnO_s {p : Nat → Prop} {N n : Nat} {o : Nat → Nat} (h : EnO p N n o) (hp : p N) : EnO p (N + 1) (n + 1) (va_up o n N) := by
  have e1 : ∀ i, i < n → va_up o n N i = o i := fun i hi => if_neg (by omega)
  have e2 : va_up o n N n = N := if_pos rfl
  refine ⟨fun i hi => ?_, fun i j hij hj => ?_, fun k hk hpk => ?_⟩
  · by_cases z : i = n
    · rw [z, e2]; exact ⟨by omega, hp⟩
    · rw [e1 i (by omega)]
      have := h.1 i (by omega)
      exact ⟨by omega, this.2⟩
  · rw [e1 i (by omega)]
    by_cases z : j = n
    · rw [z, e2]; exact (h.1 i (by omega)).1
    · rw [e1 j (by omega)]; exact h.2.1 i j hij (by omega)
  · by_cases z : k = N
    · exact ⟨n, by omega, by rw [e2, z]⟩
    · obtain ⟨i, hi, hi2⟩ := h.2.2 k (by omega) hpk
      exact ⟨i, by omega, by rw [e1 i hi, hi2]⟩
theorem EnO_n {p : Nat → Prop} {N n : Nat} {o : Nat → Nat} (h : EnO p N n o) (hp : ¬ p N) : EnO p (N + 1) n o := by
  refine ⟨fun i hi => ⟨by have := (h.1 i hi).1; omega, (h.1 i hi).2⟩, h.2.1, fun k hk hpk => ?_⟩
  by_cases z : k = N
  · subst z; exact absurd hpk hp
  · exact h.2.2 k (by omega) hpk
def npF (D : Nat → Bool) (g : Nat → Nat) : Nat → Option Nat
  | 0 => none
  | k + 1 => if D k = true then (match npF D g k with
    | none => some k
    | some b => if g k < g b then some k else some b) else npF D g k
theorem npF_f {D : Nat → Bool} {g : Nat → Nat} {k : Nat} (h : ¬ D k = true) : npF D g (k + 1) = npF D g k := if_neg h
theorem npF_t {D : Nat → Bool} {g : Nat → Nat} {k : Nat} (h : D k = true) : npF D g (k + 1) = (match npF D g k with
    | none => some k
    | some b => if g k < g b then some k else some b) := if_pos h
theorem npF_skip {D : Nat → Bool} {g : Nat → Nat} (a : Nat) : ∀ d, (∀ k, a ≤ k → k < a + d → ¬ D k = true) → npF D g (a + d) = npF D g a
  | 0, _ => rfl
  | d + 1, h => by
    rw [← Nat.add_assoc, npF_f (h (a + d) (by omega) (by omega)), npF_skip a d (fun k h1 h2 => h k h1 (by omega))]
theorem npF_D {D : Nat → Bool} {g : Nat → Nat} : ∀ N {b : Nat}, npF D g N = some b → b < N ∧ D b = true
  | 0, b, h => by cases h
  | k + 1, b, h => by
    by_cases hd : D k = true
    · rw [npF_t hd] at h
      have ih := fun {b} => npF_D (D := D) (g := g) k (b := b)
      generalize npF D g k = r at h ih
      rcases r with _ | c
      · obtain rfl := Option.some.inj h
        exact ⟨by omega, hd⟩
      · have h : (if g k < g c then some k else some c) = some b := h
        split at h
        · obtain rfl := Option.some.inj h
          exact ⟨by omega, hd⟩
        · obtain rfl := Option.some.inj h
          exact ⟨by have := (ih rfl).1; omega, (ih rfl).2⟩
    · rw [npF_f hd] at h
      have := npF_D k h
      exact ⟨by omega, this.2⟩
theorem npF_none {D : Nat → Bool} {g : Nat → Nat} : ∀ N, npF D g N = none → ∀ k, k < N → ¬ D k = true
  | 0, _, k, h => absurd h (Nat.not_lt_zero _)
  | N + 1, h, k, hk => by
    by_cases hd : D N = true
    · rw [npF_t hd] at h
      generalize npF D g N = r at h
      rcases r with _ | c
      · cases h
      · have h : (if g N < g c then some N else some c) = none := h
        split at h <;> cases h
    · rw [npF_f hd] at h
      by_cases z : k = N
      · rw [z]; exact hd
      · exact npF_none N h k (by omega)
def lcS (K : SK) (st : Nat → Nat) : Nat → Option Nat
  | 0 => none
  | k + 1 => if st k = 0 then lcS K st k else (match lcS K st k with
    | none => some (kC K k)
    | some v => if v ≤ kC K k then some v else some (kC K k))
def gd1 (K : SK) (F : SF) (f k : Nat) : Bool := if inF F f k then (match fT F f k with
  | some (some q) => mayB K F f (fun _ => none) k (some q)
  | _ => true) else true
def gdS (K : SK) (F : SF) (f : Nat) : Nat → Bool
  | 0 => true
  | k + 1 => gdS K F f k && gd1 K F f k
def wtB (F : SF) (f : Nat) (L : Nat → Pl) (k : Nat) : Bool := decide (opF F f k ∧ L k = none)
abbrev npS (K : SK) (F : SF) (f : Nat) (L : Nat → Pl) (l : Nat → Nat) : Option Nat := npF (wtB F f L) (fgS K F f L l) 64
def OM (F : SF) (f n : Nat) (o : Nat → Nat) (h : mj_H) : Prop := EnO (opF F f) 64 n o ∧ mI h 38 43 = nI n ∧ ∀ i, i < n → mI h 71 i = nI (o i)
def WSM (f a k : Nat) : Prop := (a = 67 ∧ 64 * f ≤ k ∧ k < 64 * f + 64) ∨ (69 ≤ a ∧ a ≤ 73) ∨ (a = 38 ∧ (k = 41 ∨ k = 42 ∨ k = 43 ∨ (49 ≤ k ∧ k ≤ 54)))
theorem WSM_st (f : Nat) : ∀ q ∈ statR, ¬ WSM f q.1 q.2.1 := by
  intro q hq
  have h2 : ∀ q ∈ statR, ¬ (q.1 = 67 ∨ (69 ≤ q.1 ∧ q.1 ≤ 73) ∨ (q.1 = 38 ∧ (q.2.1 = 41 ∨ q.2.1 = 42 ∨ q.2.1 = 43 ∨ (49 ≤ q.2.1 ∧ q.2.1 ≤ 54)))) := by decide
  have h3 := h2 q hq
  unfold WSM
  omega
theorem KM_sr {K : SK} {f : Nat} {h h1 : mj_H} (hs : HT h) (fr : Fr (WSM f) h h1) (hK : KM K h) : KM K h1 := by
  have hn := HT_n hs
  refine ⟨by rw [fr.I (by omega) (by unfold WSM; omega)]; exact hK.1, fun k hk => ?_⟩
  obtain ⟨a1, a2, a3, a4, a5⟩ := hK.2 k hk
  refine ⟨?_, ?_, ?_, ?_, ?_⟩
  · rw [fr.I (by omega) (by unfold WSM; omega)]; exact a1
  · rw [fr.I (by omega) (by unfold WSM; omega)]; exact a2
  · rw [fr.I (by omega) (by unfold WSM; omega)]; exact a3
  · rw [fr.I (by omega) (by unfold WSM; omega)]; exact a4
  · rw [fr.L (by omega) (by unfold WSM; omega)]; exact a5
theorem FT1_sr {F : SF} {f : Nat} {h h1 : mj_H} (hs : HT h) (fr : Fr (WSM f) h h1) (hF : FT1 F f h) : FT1 F f h1 := by
  have hn := HT_n hs
  refine ⟨⟨?_, ?_⟩, fun k hk => ?_, fun k hk => ?_⟩
  · rw [fr.I (by omega) (by unfold WSM; omega)]; exact hF.1.1
  · rw [fr.I (by omega) (by unfold WSM; omega)]; exact hF.1.2
  · rw [fr.I (by omega) (by unfold WSM; omega)]; exact hF.2.1 k hk
  · rw [fr.I (by omega) (by unfold WSM; omega)]; exact hF.2.2 k hk
def Wly (a k : Nat) : Prop := a = 69 ∨ a = 70 ∨ (a = 38 ∧ k = 52)
theorem Wly_sr {f : Nat} : ∀ a k, Wly a k → WSM f a k := by intro a k h; unfold Wly at h; unfold WSM; omega
def lyS (L : Nat → Pl) (k : Nat) (p : Pl) : Nat → Pl := va_up L k p
def leS (l : Nat → Nat) (k v : Nat) : Nat → Nat := va_up l k v
theorem SM_lay {n : Nat} {F : SF} {f : Nat} {L : Nat → Pl} {l : Nat → Nat} {h : mj_H} (hM : SM n F f L l h) {k u c : Nat} {p : Pl} {x y z : Int32} (hx : x = eP p) (hy : y = nI c) : SM n F f (lyS L k p) (leS l u c) (wI (wI (wI h 69 k x) 70 u y) 38 52 z) := by
  subst hx
  subst hy
  obtain ⟨h1, h2, h3⟩ := hM
  refine ⟨?_, fun j hj hi => ?_, fun j hj => ?_⟩
  · rw [mI_oth (Or.inr (by decide)), mI_oth (Or.inl (by decide)), mI_oth (Or.inl (by decide))]; exact h1
  · rw [mI_oth (Or.inl (by decide)), mI_oth (Or.inl (by decide))]
    unfold lyS va_up
    by_cases z : j = k
    · subst z; rw [if_pos rfl, mI_self]
    · rw [if_neg z, mI_oth (Or.inr z)]; exact h2 j hj hi
  · rw [mI_oth (Or.inl (by decide))]
    unfold leS va_up
    by_cases z : j = u
    · subst z; rw [if_pos rfl, mI_self]
    · rw [if_neg z, mI_oth (Or.inr z), mI_oth (Or.inl (by decide))]; exact h3 j hj
theorem rm_lay_s {S : mj_S} {h : mj_H} (hs : HT h) {K : SK} (hK : KM K h) (hO : KO K) {F : SF} (hFO : FO K.1 F) {f : Nat} (hf : f < F.1) (hF : FT1 F f h) {L : Nat → Pl} (hL : okLy K.1 L) {l : Nat → Nat} (hM : SM K.1 F f L l h) {c : Nat} (hc : mI h 38 52 = nI c) {k : Nat} (hk : k < 64) {n : Nat} (hn : n < 8 * K.1) (hl : 0 < l (n / 8)) : Cl S rm_lay [.ref 38, .int (nI (k)), .int (nI (n))] h (fun r h' => r = none ∧ SM K.1 F f (lyS L k (some (n / 8, n % 8))) (leS l (n / 8) (l (n / 8) - 1)) h' ∧ mI h' 38 52 = nI (c + kC K (n / 8)) ∧ Fr Wly h h') := by
  show Ex S rm_lay 0 [some (.ref 38), some (.int (nI (k))), some (.int (nI (n)))] [] h _
  have hk40 := hO.1
  refine Ex_aload_n d_rm_lay_0 rfl ?_
  refine Ex_getR (v := .ref 69) d_rm_lay_1 pf_rm_103 rfl (t_38 hs) (r_38_44 hs) ?_
  refine Ex_iload_n d_rm_lay_4 rfl ?_
  refine Ex_iload_n d_rm_lay_5 rfl ?_
  refine Ex_bipush d_rm_lay_6 bp_8 ?_
  refine Ex_idivN (n) (8) d_rm_lay_8 rfl rfl (by omega) (by omega) ?_
  refine Ex_iload_n d_rm_lay_9 rfl ?_
  refine Ex_bipush d_rm_lay_10 bp_8 ?_
  refine Ex_iremN (n) (8) d_rm_lay_12 rfl rfl (by omega) (by omega) ?_
  refine Ex_iconst d_rm_lay_13 ic_0 ?_
  refine Ex_pS3 (v := .int (eP (some (n / 8, n % 8)))) d_rm_lay_14 pk_rm_lay_166 (rm_cell_s (k := n / 8) (m := n % 8) (s := 0) (by omega) (by omega) (by omega)) ?_
  refine Ex_iastoreN (a := k) d_rm_lay_17 (t_69 hs) rfl (by omega) (by decide) ?_
  refine Ex_aload_n d_rm_lay_18 rfl ?_
  refine Ex_getR (v := .ref 70) d_rm_lay_19 pf_rm_106 rfl (t_38 hs) (r_38_45 hs) ?_
  refine Ex_iload_n d_rm_lay_22 rfl ?_
  refine Ex_bipush d_rm_lay_23 bp_8 ?_
  refine Ex_idivN (n) (8) d_rm_lay_25 rfl rfl (by omega) (by omega) ?_
  refine Ex_dup2 rfl rfl d_rm_lay_26 ?_
  refine Ex_ialoadN (a := n / 8) (y := (nI (l (n / 8)))) d_rm_lay_27 (t_70 hs) rfl (by omega) (by decide) (by rw [mI_oth (Or.inl (by decide))]; exact hM.2.2 _ (by omega)) ?_
  refine Ex_iconst d_rm_lay_28 ic_1 ?_
  refine Ex_isubN (l (n / 8)) (1) d_rm_lay_29 rfl rfl (by omega) ?_
  refine Ex_iastoreN (a := n / 8) d_rm_lay_30 (t_70 hs) rfl (by omega) (by decide) ?_
  refine Ex_aload_n d_rm_lay_31 rfl ?_
  refine Ex_dup rfl d_rm_lay_32 ?_
  refine Ex_getIE (y := (nI (c))) d_rm_lay_33 pf_rm_313 rfl (t_38 hs) (by show mI (wI (wI h 69 _ _) 70 _ _) 38 52 = _; rw [mI_oth (Or.inl (by decide)), mI_oth (Or.inl (by decide))]; exact hc) ?_
  refine Ex_aload_n d_rm_lay_36 rfl ?_
  refine Ex_getR (v := .ref 41) d_rm_lay_37 pf_rm_16 rfl (t_38 hs) (r_38_2 hs) ?_
  refine Ex_iload_n d_rm_lay_40 rfl ?_
  refine Ex_bipush d_rm_lay_41 bp_8 ?_
  refine Ex_idivN (n) (8) d_rm_lay_43 rfl rfl (by omega) (by omega) ?_
  refine Ex_ialoadN (a := n / 8) (y := (nI (kC K (n / 8)))) d_rm_lay_44 (t_41 hs) rfl (by omega) (by decide) (by show mI (wI (wI h 69 _ _) 70 _ _) 41 _ = _; rw [mI_oth (Or.inl (by decide)), mI_oth (Or.inl (by decide))]; exact (hK.2 _ (by omega)).2.2.1) ?_
  refine Ex_iaddN (c) (kC K (n / 8)) d_rm_lay_45 rfl rfl ?_
  refine Ex_putI d_rm_lay_46 pf_rm_313 (Or.inl rfl) (t_38 hs) (Or.inl rfl) ?_
  refine Ex_return d_rm_lay_49 rfl ?_
  exact ⟨rfl, SM_lay hM rfl rfl, mI_self _ _ _ _, ((Fr.rf.sI (Or.inl rfl)).sI (Or.inr (Or.inl rfl))).sI (Or.inr (Or.inr ⟨rfl, rfl⟩))⟩
theorem rm_takeBack_s {S : mj_S} {h : mj_H} (hs : HT h) {K : SK} (hK : KM K h) (hO : KO K) {F : SF} (hFO : FO K.1 F) {f : Nat} (hf : f < F.1) (hF : FT1 F f h) {L : Nat → Pl} (hL : okLy K.1 L) {l : Nat → Nat} (hM : SM K.1 F f L l h) {c : Nat} (hc : mI h 38 52 = nI c) {k : Nat} (hk : k < 64) (hin : inF F f k) {q : Nat × Nat} (hq : L k = some q) (hcc : kC K q.1 ≤ c) : Cl S rm_takeBack [.ref 38, .int (nI (k))] h (fun r h' => r = none ∧ SM K.1 F f (lyS L k none) (leS l q.1 (l q.1 + 1)) h' ∧ mI h' 38 52 = nI (c - kC K q.1) ∧ Fr Wly h h') := by
  show Ex S rm_takeBack 0 [some (.ref 38), some (.int (nI (k))), none] [] h _
  have hk40 := hO.1
  have hq1 : q.1 < K.1 ∧ q.2 < 8 := by have z := hL k; rw [hq] at z; exact z
  refine Ex_aload_n d_rm_takeBack_0 rfl ?_
  refine Ex_getR (v := .ref 69) d_rm_takeBack_1 pf_rm_103 rfl (t_38 hs) (r_38_44 hs) ?_
  refine Ex_iload_n d_rm_takeBack_4 rfl ?_
  refine Ex_ialoadN (a := k) (y := (nI (0 * 65536 + (8 * q.1 + q.2 + 1)))) d_rm_takeBack_5 (t_69 hs) rfl (by omega) (by decide) (by rw [hM.2.1 _ hk hin, hq]; rfl) ?_
  refine Ex_pS1 (v := .int (nI (q.1))) d_rm_takeBack_6 pk_rm_takeBack_156 (rm_kindOf_s (k := q.1) (m := q.2) (s := 0) (by omega) (by omega) (by omega)) ?_
  refine Ex_istore_n [some (.ref 38), some (.int (nI (k))), some (.int (nI (q.1)))] d_rm_takeBack_9 (Nat.le_of_ble_eq_true rfl) rfl ?_
  refine Ex_aload_n d_rm_takeBack_10 rfl ?_
  refine Ex_getR (v := .ref 69) d_rm_takeBack_11 pf_rm_103 rfl (t_38 hs) (r_38_44 hs) ?_
  refine Ex_iload_n d_rm_takeBack_14 rfl ?_
  refine Ex_iconst d_rm_takeBack_15 ic_0 ?_
  refine Ex_iastoreN (a := k) d_rm_takeBack_16 (t_69 hs) rfl (by omega) (by decide) ?_
  refine Ex_aload_n d_rm_takeBack_17 rfl ?_
  refine Ex_getR (v := .ref 70) d_rm_takeBack_18 pf_rm_106 rfl (t_38 hs) (r_38_45 hs) ?_
  refine Ex_iload_n d_rm_takeBack_21 rfl ?_
  refine Ex_dup2 rfl rfl d_rm_takeBack_22 ?_
  refine Ex_ialoadN (a := q.1) (y := (nI (l q.1))) d_rm_takeBack_23 (t_70 hs) rfl (by omega) (by decide) (by rw [mI_oth (Or.inl (by decide))]; exact hM.2.2 _ (by omega)) ?_
  refine Ex_iconst d_rm_takeBack_24 ic_1 ?_
  refine Ex_iaddN (l q.1) (1) d_rm_takeBack_25 rfl rfl ?_
  refine Ex_iastoreN (a := q.1) d_rm_takeBack_26 (t_70 hs) rfl (by omega) (by decide) ?_
  refine Ex_aload_n d_rm_takeBack_27 rfl ?_
  refine Ex_dup rfl d_rm_takeBack_28 ?_
  refine Ex_getIE (y := (nI (c))) d_rm_takeBack_29 pf_rm_313 rfl (t_38 hs) (by show mI (wI (wI h 69 _ _) 70 _ _) 38 52 = _; rw [mI_oth (Or.inl (by decide)), mI_oth (Or.inl (by decide))]; exact hc) ?_
  refine Ex_aload_n d_rm_takeBack_32 rfl ?_
  refine Ex_getR (v := .ref 41) d_rm_takeBack_33 pf_rm_16 rfl (t_38 hs) (r_38_2 hs) ?_
  refine Ex_iload_n d_rm_takeBack_36 rfl ?_
  refine Ex_ialoadN (a := q.1) (y := (nI (kC K q.1))) d_rm_takeBack_37 (t_41 hs) rfl (by omega) (by decide) (by show mI (wI (wI h 69 _ _) 70 _ _) 41 _ = _; rw [mI_oth (Or.inl (by decide)), mI_oth (Or.inl (by decide))]; exact (hK.2 _ (by omega)).2.2.1) ?_
  refine Ex_isubN (c) (kC K q.1) d_rm_takeBack_38 rfl rfl (by omega) ?_
  refine Ex_putI d_rm_takeBack_39 pf_rm_313 (Or.inl rfl) (t_38 hs) (Or.inl rfl) ?_
  refine Ex_return d_rm_takeBack_42 rfl ?_
  exact ⟨rfl, SM_lay (p := none) hM rfl rfl, mI_self _ _ _ _, ((Fr.rf.sI (Or.inl rfl)).sI (Or.inr (Or.inl rfl))).sI (Or.inr (Or.inr ⟨rfl, rfl⟩))⟩
theorem lcS_le {K : SK} (hO : KO K) (st : Nat → Nat) : ∀ k, k ≤ K.1 → ∀ v, lcS K st k = some v → v ≤ 1000
  | 0, _, v, h => by cases h
  | k + 1, hk, v, h => by
    have ih := lcS_le hO st k (by omega)
    have hc := (hO.2 k (by omega)).2.2
    have h : (if st k = 0 then lcS K st k else (match lcS K st k with
    | none => some (kC K k)
    | some v => if v ≤ kC K k then some v else some (kC K k))) = some v := h
    split at h
    · exact ih v h
    · generalize lcS K st k = r at h ih
      rcases r with _ | c
      · obtain rfl := Option.some.inj h
        exact hc
      · have h : (if c ≤ kC K k then some c else some (kC K k)) = some v := h
        split at h
        · obtain rfl := Option.some.inj h
          exact ih c rfl
        · obtain rfl := Option.some.inj h
          exact hc
theorem rm_leastCost_L {S : mj_S} {h : mj_H} (hs : HT h) {K : SK} (hK : KM K h) (hO : KO K) {F : SF} (hFO : FO K.1 F) {f : Nat} (hf : f < F.1) (hF : FT1 F f h) {L : Nat → Pl} (hL : okLy K.1 L) {l : Nat → Nat} (hM : SM K.1 F f L l h) : ∀ d k : Nat, k + d = K.1 → Ex S rm_leastCost 6 [some (.ref 38), some (.int (nI ((lcS K (fS F f) k).getD 0))), some (.int (bI ((lcS K (fS F f) k).isSome))), some (.int (nI (k)))] [] h (Pu (.int (nI ((lcS K (fS F f) K.1).getD 0))) h) := by
  have hk40 := hO.1
  have hf6 := hFO.1
  intro d
  induction d with
  | zero =>
    intro k hkd
    obtain rfl : K.1 = k := by omega
    refine Ex_iload_n d_rm_leastCost_6 rfl ?_
    refine Ex_aload_n d_rm_leastCost_7 rfl ?_
    refine Ex_getIE (y := (nI (K.1))) d_rm_leastCost_8 pf_rm_128 rfl (t_38 hs) hK.1 ?_
    refine Ex_icmp_geN (K.1) (K.1) 63 d_rm_leastCost_11 rfl rfl rfl (by omega) (by omega) (fun hc11 => ?_) (fun hc11 => ?_)
    · refine Ex_iload_n d_rm_leastCost_63 rfl ?_
      refine Ex_ireturn d_rm_leastCost_64 rfl ?_
      exact ⟨rfl, rfl⟩
    · exfalso; omega
  | succ d ih =>
    intro k hkd
    have hst := (hFO.2.2 f hf).2.2 k (by omega)
    have hcst := (hO.2 k (by omega)).2.2
    have ih := ih (k + 1) (by omega)
    rw [show lcS K (fS F f) (k + 1) = if fS F f k = 0 then lcS K (fS F f) k else (match lcS K (fS F f) k with
    | none => some (kC K k)
    | some v => if v ≤ kC K k then some v else some (kC K k)) from rfl] at ih
    have hlc := lcS_le hO (fS F f) k (by omega)
    generalize lcS K (fS F f) k = r at ih hlc
    rcases r with _ | v
    · show Ex S rm_leastCost 6 [some (.ref 38), some (.int (0)), some (.int (0)), some (.int (nI (k)))] [] h _
      refine Ex_iload_n d_rm_leastCost_6 rfl ?_
      refine Ex_aload_n d_rm_leastCost_7 rfl ?_
      refine Ex_getIE (y := (nI (K.1))) d_rm_leastCost_8 pf_rm_128 rfl (t_38 hs) hK.1 ?_
      refine Ex_icmp_geN (k) (K.1) 63 d_rm_leastCost_11 rfl rfl rfl (by omega) (by omega) (fun hc11 => ?_) (fun hc11 => ?_)
      · exfalso; omega
      · refine Ex_aload_n d_rm_leastCost_14 rfl ?_
        refine Ex_getR (v := .ref 68) d_rm_leastCost_15 pf_rm_100 rfl (t_38 hs) (r_38_39 hs) ?_
        refine Ex_bipush d_rm_leastCost_18 bp_40 ?_
        refine Ex_aload_n d_rm_leastCost_20 rfl ?_
        refine Ex_getIE (y := (nI (f))) d_rm_leastCost_21 pf_rm_294 rfl (t_38 hs) hM.1 ?_
        refine Ex_imulN (40) (f) d_rm_leastCost_24 rfl rfl ?_
        refine Ex_iload_n d_rm_leastCost_25 rfl ?_
        refine Ex_iaddN (40 * f) (k) d_rm_leastCost_26 rfl rfl ?_
        refine Ex_ialoadN (a := (40 * f) + k) (y := (nI (fS F f k))) d_rm_leastCost_27 (t_68 hs) rfl (by omega) (by decide) (hF.2.2 k (by omega)) ?_
        refine Ex_if_eqN (fS F f k) 57 d_rm_leastCost_28 rfl rfl (by omega) (fun hc28 => ?_) (fun hc28 => ?_)
        · refine Ex_iincN (k) 1 [some (.ref 38), some (.int (0)), some (.int (0)), some (.int (nI (k + 1)))] d_rm_leastCost_57 rfl rfl rfl rfl ?_
          refine Ex_goto 6 d_rm_leastCost_60 rfl ?_
          rw [if_pos hc28] at ih
          exact ih
        · refine Ex_iload_n d_rm_leastCost_31 rfl ?_
          refine Ex_if_eqN (0) 48 d_rm_leastCost_32 rfl rfl (by omega) (fun hc32 => ?_) (fun hc32 => ?_)
          · refine Ex_aload_n d_rm_leastCost_48 rfl ?_
            refine Ex_getR (v := .ref 41) d_rm_leastCost_49 pf_rm_16 rfl (t_38 hs) (r_38_2 hs) ?_
            refine Ex_iload_n d_rm_leastCost_52 rfl ?_
            refine Ex_ialoadN (a := k) (y := (nI (kC K k))) d_rm_leastCost_53 (t_41 hs) rfl (by omega) (by decide) ((hK.2 k (by omega)).2.2.1) ?_
            refine Ex_istore_n [some (.ref 38), some (.int (nI (kC K k))), some (.int (0)), some (.int (nI (k)))] d_rm_leastCost_54 (Nat.le_of_ble_eq_true rfl) rfl ?_
            refine Ex_iconst d_rm_leastCost_55 ic_1 ?_
            refine Ex_istore_n [some (.ref 38), some (.int (nI (kC K k))), some (.int (1)), some (.int (nI (k)))] d_rm_leastCost_56 (Nat.le_of_ble_eq_true rfl) rfl ?_
            refine Ex_iincN (k) 1 [some (.ref 38), some (.int (nI (kC K k))), some (.int (1)), some (.int (nI (k + 1)))] d_rm_leastCost_57 rfl rfl rfl rfl ?_
            refine Ex_goto 6 d_rm_leastCost_60 rfl ?_
            rw [if_neg hc28] at ih
            exact ih
          · exact absurd hc32 (by decide)
    · show Ex S rm_leastCost 6 [some (.ref 38), some (.int (nI (v))), some (.int (1)), some (.int (nI (k)))] [] h _
      refine Ex_iload_n d_rm_leastCost_6 rfl ?_
      refine Ex_aload_n d_rm_leastCost_7 rfl ?_
      refine Ex_getIE (y := (nI (K.1))) d_rm_leastCost_8 pf_rm_128 rfl (t_38 hs) hK.1 ?_
      refine Ex_icmp_geN (k) (K.1) 63 d_rm_leastCost_11 rfl rfl rfl (by omega) (by omega) (fun hc11 => ?_) (fun hc11 => ?_)
      · exfalso; omega
      · refine Ex_aload_n d_rm_leastCost_14 rfl ?_
        refine Ex_getR (v := .ref 68) d_rm_leastCost_15 pf_rm_100 rfl (t_38 hs) (r_38_39 hs) ?_
        refine Ex_bipush d_rm_leastCost_18 bp_40 ?_
        refine Ex_aload_n d_rm_leastCost_20 rfl ?_
        refine Ex_getIE (y := (nI (f))) d_rm_leastCost_21 pf_rm_294 rfl (t_38 hs) hM.1 ?_
        refine Ex_imulN (40) (f) d_rm_leastCost_24 rfl rfl ?_
        refine Ex_iload_n d_rm_leastCost_25 rfl ?_
        refine Ex_iaddN (40 * f) (k) d_rm_leastCost_26 rfl rfl ?_
        refine Ex_ialoadN (a := (40 * f) + k) (y := (nI (fS F f k))) d_rm_leastCost_27 (t_68 hs) rfl (by omega) (by decide) (hF.2.2 k (by omega)) ?_
        refine Ex_if_eqN (fS F f k) 57 d_rm_leastCost_28 rfl rfl (by omega) (fun hc28 => ?_) (fun hc28 => ?_)
        · refine Ex_iincN (k) 1 [some (.ref 38), some (.int (nI (v))), some (.int (1)), some (.int (nI (k + 1)))] d_rm_leastCost_57 rfl rfl rfl rfl ?_
          refine Ex_goto 6 d_rm_leastCost_60 rfl ?_
          first | (rw [if_pos hc28] at ih; exact ih) | (rw [if_neg hc28] at ih; dsimp only at ih; rw [if_pos (by omega)] at ih; exact ih)
        · refine Ex_iload_n d_rm_leastCost_31 rfl ?_
          refine Ex_if_eqN (1) 48 d_rm_leastCost_32 rfl rfl (by omega) (fun hc32 => ?_) (fun hc32 => ?_)
          · exact absurd hc32 (by decide)
          · refine Ex_aload_n d_rm_leastCost_35 rfl ?_
            refine Ex_getR (v := .ref 41) d_rm_leastCost_36 pf_rm_16 rfl (t_38 hs) (r_38_2 hs) ?_
            refine Ex_iload_n d_rm_leastCost_39 rfl ?_
            refine Ex_ialoadN (a := k) (y := (nI (kC K k))) d_rm_leastCost_40 (t_41 hs) rfl (by omega) (by decide) ((hK.2 k (by omega)).2.2.1) ?_
            refine Ex_iload_n d_rm_leastCost_41 rfl ?_
            refine Ex_icmp_ltN (kC K k) (v) 48 d_rm_leastCost_42 rfl rfl rfl (by have := hlc v rfl; omega) (by have := hlc v rfl; omega) (fun hc42 => ?_) (fun hc42 => ?_)
            · refine Ex_aload_n d_rm_leastCost_48 rfl ?_
              refine Ex_getR (v := .ref 41) d_rm_leastCost_49 pf_rm_16 rfl (t_38 hs) (r_38_2 hs) ?_
              refine Ex_iload_n d_rm_leastCost_52 rfl ?_
              refine Ex_ialoadN (a := k) (y := (nI (kC K k))) d_rm_leastCost_53 (t_41 hs) rfl (by omega) (by decide) ((hK.2 k (by omega)).2.2.1) ?_
              refine Ex_istore_n [some (.ref 38), some (.int (nI (kC K k))), some (.int (1)), some (.int (nI (k)))] d_rm_leastCost_54 (Nat.le_of_ble_eq_true rfl) rfl ?_
              refine Ex_iconst d_rm_leastCost_55 ic_1 ?_
              refine Ex_istore_n [some (.ref 38), some (.int (nI (kC K k))), some (.int (1)), some (.int (nI (k)))] d_rm_leastCost_56 (Nat.le_of_ble_eq_true rfl) rfl ?_
              refine Ex_iincN (k) 1 [some (.ref 38), some (.int (nI (kC K k))), some (.int (1)), some (.int (nI (k + 1)))] d_rm_leastCost_57 rfl rfl rfl rfl ?_
              refine Ex_goto 6 d_rm_leastCost_60 rfl ?_
              rw [if_neg hc28] at ih
              dsimp only at ih
              rw [if_neg (by omega)] at ih
              exact ih
            · refine Ex_goto 57 d_rm_leastCost_45 rfl ?_
              refine Ex_iincN (k) 1 [some (.ref 38), some (.int (nI (v))), some (.int (1)), some (.int (nI (k + 1)))] d_rm_leastCost_57 rfl rfl rfl rfl ?_
              refine Ex_goto 6 d_rm_leastCost_60 rfl ?_
              first | (rw [if_pos hc28] at ih; exact ih) | (rw [if_neg hc28] at ih; dsimp only at ih; rw [if_pos (by omega)] at ih; exact ih)
theorem rm_leastCost_s {S : mj_S} {h : mj_H} (hs : HT h) {K : SK} (hK : KM K h) (hO : KO K) {F : SF} (hFO : FO K.1 F) {f : Nat} (hf : f < F.1) (hF : FT1 F f h) {L : Nat → Pl} (hL : okLy K.1 L) {l : Nat → Nat} (hM : SM K.1 F f L l h) : Cl S rm_leastCost [.ref 38] h (Pu (.int (nI ((lcS K (fS F f) K.1).getD 0))) h) := by
  show Ex S rm_leastCost 0 [some (.ref 38), none, none, none] [] h _
  refine Ex_iconst d_rm_leastCost_0 ic_0 ?_
  refine Ex_istore_n [some (.ref 38), some (.int (0)), none, none] d_rm_leastCost_1 (Nat.le_of_ble_eq_true rfl) rfl ?_
  refine Ex_iconst d_rm_leastCost_2 ic_0 ?_
  refine Ex_istore_n [some (.ref 38), some (.int (0)), some (.int (0)), none] d_rm_leastCost_3 (Nat.le_of_ble_eq_true rfl) rfl ?_
  refine Ex_iconst d_rm_leastCost_4 ic_0 ?_
  refine Ex_istore_n [some (.ref 38), some (.int (0)), some (.int (0)), some (.int (0))] d_rm_leastCost_5 (Nat.le_of_ble_eq_true rfl) rfl ?_
  exact rm_leastCost_L hs hK hO hFO hf hF hL hM K.1 0 (by omega)
def gOf (g : Nat → Nat) (r : Option Nat) : Nat := match r with
  | none => 0
  | some b => g b
theorem eP_z {n : Nat} {p : Pl} (hn : n ≤ 40) (h : okP n p) : eP p = 0 ↔ p = none := by
  match p, h with
  | none, _ => exact ⟨fun _ => rfl, fun _ => rfl⟩
  | some (k, m), h =>
    refine ⟨fun z => absurd z ?_, fun z => by cases z⟩
    exact eM_ne (q := (k, m, 0)) ⟨by have := h.1; omega, h.2, by omega⟩
theorem np_step {F : SF} {f n : Nat} {o : Nat → Nat} (hE : EnO (opF F f) 64 n o) {L : Nat → Pl} {g : Nat → Nat} {j : Nat} (hj : j < n) : npF (wtB F f L) g (oN 64 n o (j + 1)) = npF (wtB F f L) g (o j + 1) := by
  have h1 : o j + 1 ≤ oN 64 n o (j + 1) := by
    unfold oN
    split
    · rename_i hc; exact hE.2.1 j (j + 1) (by omega) hc
    · have := (hE.1 j hj).1; omega
  obtain ⟨d, hd⟩ : ∃ d, oN 64 n o (j + 1) = o j + 1 + d := ⟨_, (Nat.add_sub_cancel' h1).symm⟩
  rw [hd]
  refine npF_skip (o j + 1) d (fun k h2 h3 hw => ?_)
  unfold wtB at hw
  rw [decide_eq_true_eq] at hw
  exact EnO_gap hE hj k h2 (by omega) hw.1
theorem np_0 {F : SF} {f n : Nat} {o : Nat → Nat} (hE : EnO (opF F f) 64 n o) {L : Nat → Pl} {g : Nat → Nat} : npF (wtB F f L) g (oN 64 n o 0) = none := by
  have z := npF_skip (D := wtB F f L) (g := g) 0 (oN 64 n o 0) (fun k _ h3 hw => by
    unfold wtB at hw
    rw [decide_eq_true_eq] at hw
    exact EnO_gap0 hE k (by omega) hw.1)
  rw [Nat.zero_add] at z
  rw [z]
  rfl
theorem fgS_le {K : SK} {F : SF} {f : Nat} {L : Nat → Pl} {l : Nat → Nat} {k : Nat} : fgS K F f L l k ≤ 8 * K.1 := cnB_le _ _ _
theorem rm_nextPlace_L {S : mj_S} {h : mj_H} (hs : HT h) {K : SK} (hK : KM K h) (hO : KO K) {F : SF} (hFO : FO K.1 F) {f : Nat} (hf : f < F.1) (hF : FT1 F f h) {L : Nat → Pl} (hL : okLy K.1 L) {l : Nat → Nat} (hM : SM K.1 F f L l h) (hl : ∀ k, k < 40 → l k < 2147483648) {n : Nat} {o : Nat → Nat} (hQ : OM F f n o h) : ∀ d j : Nat, j + d = n → Ex S rm_nextPlace 6 [some (.ref 38), some (.int (J (vN (npF (wtB F f L) (fgS K F f L l) (oN 64 n o (j)))))), some (.int (nI (gOf (fgS K F f L l) (npF (wtB F f L) (fgS K F f L l) (oN 64 n o (j)))))), some (.int (nI (j))), none] [] h (Pu (.int (J (vN (npS K F f L l)))) h) := by
  have hk40 := hO.1
  have hn64 := EnO_le hQ.1
  intro d
  induction d with
  | zero =>
    intro j hjd
    obtain rfl : n = j := by omega
    refine Ex_iload_n d_rm_nextPlace_6 rfl ?_
    refine Ex_aload_n d_rm_nextPlace_7 rfl ?_
    refine Ex_getIE (y := (nI (n))) d_rm_nextPlace_8 pf_rm_307 rfl (t_38 hs) hQ.2.1 ?_
    refine Ex_icmp_geN (n) (n) 69 d_rm_nextPlace_11 rfl rfl rfl (by omega) (by omega) (fun hc11 => ?_) (fun hc11 => ?_)
    · refine Ex_iload_n d_rm_nextPlace_69 rfl ?_
      refine Ex_ireturn d_rm_nextPlace_70 rfl ?_
      rw [show oN 64 n o n = 64 from if_neg (by omega)]
      exact ⟨rfl, rfl⟩
    · exfalso; omega
  | succ d ih =>
    intro j hjd
    have hj : j < n := by omega
    obtain ⟨ho1, ho2⟩ := hQ.1.1 j hj
    have ih := ih (j + 1) (by omega)
    rw [np_step hQ.1 hj] at ih
    have hoj : oN 64 n o j = o j := if_pos hj
    rw [hoj]
    have hnp := fun b => npF_D (D := (wtB F f L)) (g := (fgS K F f L l)) (o j) (b := b)
    have hfg := fgS_le (K := K) (F := F) (f := f) (L := L) (l := l) (k := o j)
    refine Ex_iload_n d_rm_nextPlace_6 rfl ?_
    refine Ex_aload_n d_rm_nextPlace_7 rfl ?_
    refine Ex_getIE (y := (nI (n))) d_rm_nextPlace_8 pf_rm_307 rfl (t_38 hs) hQ.2.1 ?_
    refine Ex_icmp_geN (j) (n) 69 d_rm_nextPlace_11 rfl rfl rfl (by omega) (by omega) (fun hc11 => ?_) (fun hc11 => ?_)
    · exfalso; omega
    · refine Ex_aload_n d_rm_nextPlace_14 rfl ?_
      refine Ex_getR (v := .ref 69) d_rm_nextPlace_15 pf_rm_103 rfl (t_38 hs) (r_38_44 hs) ?_
      refine Ex_aload_n d_rm_nextPlace_18 rfl ?_
      refine Ex_getR (v := .ref 71) d_rm_nextPlace_19 pf_rm_109 rfl (t_38 hs) (r_38_46 hs) ?_
      refine Ex_iload_n d_rm_nextPlace_22 rfl ?_
      refine Ex_ialoadN (a := j) (y := (nI (o j))) d_rm_nextPlace_23 (t_71 hs) rfl (by omega) (by decide) (hQ.2.2 j hj) ?_
      refine Ex_ialoadN (a := o j) (y := (eP (L (o j)))) d_rm_nextPlace_24 (t_69 hs) rfl (by omega) (by decide) (hM.2.1 _ ho1 ho2.1) ?_
      refine Ex_if_eq 31 d_rm_nextPlace_25 rfl (fun hc25 => ?_) (fun hc25 => ?_)
      · have hln : L (o j) = none := (eP_z hO.1 (hL _)).mp hc25
        rw [npF_t (by unfold wtB; rw [decide_eq_true_eq]; exact ⟨ho2, hln⟩)] at ih
        refine Ex_aload_n d_rm_nextPlace_31 rfl ?_
        refine Ex_aload_n d_rm_nextPlace_32 rfl ?_
        refine Ex_getR (v := .ref 71) d_rm_nextPlace_33 pf_rm_109 rfl (t_38 hs) (r_38_46 hs) ?_
        refine Ex_iload_n d_rm_nextPlace_36 rfl ?_
        refine Ex_ialoadN (a := j) (y := (nI (o j))) d_rm_nextPlace_37 (t_71 hs) rfl (by omega) (by decide) (hQ.2.2 j hj) ?_
        refine Ex_pV1 (v := .int (nI (fgS K F f L l (o j)))) d_rm_nextPlace_38 pk_rm_nextPlace_310 (t_38 hs) (rm_fitting_s hs hK hO hFO hf hF hL hM hl (k := o j) ho1) ?_
        refine Ex_istore [some (.ref 38), some (.int (J (vN (npF (wtB F f L) (fgS K F f L l) (o j))))), some (.int (nI (gOf (fgS K F f L l) (npF (wtB F f L) (fgS K F f L l) (o j))))), some (.int (nI (j))), some (.int (nI (fgS K F f L l (o j))))] d_rm_nextPlace_41 (Nat.le_of_ble_eq_true rfl) rfl ?_
        generalize npF (wtB F f L) (fgS K F f L l) (o j) = r at ih hnp
        rcases r with _ | b
        · show Ex S rm_nextPlace 43 [some (.ref 38), some (.int (-1)), some (.int (0)), some (.int (nI (j))), some (.int (nI (fgS K F f L l (o j))))] [] h _
          refine Ex_iload_n d_rm_nextPlace_43 rfl ?_
          refine Ex_if_ltZ ((-1)) 53 d_rm_nextPlace_44 rfl (by decide) (by omega) (fun hc44 => ?_) (fun hc44 => ?_)
          · refine Ex_aload_n d_rm_nextPlace_53 rfl ?_
            refine Ex_getR (v := .ref 71) d_rm_nextPlace_54 pf_rm_109 rfl (t_38 hs) (r_38_46 hs) ?_
            refine Ex_iload_n d_rm_nextPlace_57 rfl ?_
            refine Ex_ialoadN (a := j) (y := (nI (o j))) d_rm_nextPlace_58 (t_71 hs) rfl (by omega) (by decide) (hQ.2.2 j hj) ?_
            refine Ex_istore_n [some (.ref 38), some (.int (nI (o j))), some (.int (0)), some (.int (nI (j))), some (.int (nI (fgS K F f L l (o j))))] d_rm_nextPlace_59 (Nat.le_of_ble_eq_true rfl) rfl ?_
            refine Ex_iload d_rm_nextPlace_60 rfl ?_
            refine Ex_istore_n [some (.ref 38), some (.int (nI (o j))), some (.int (nI (fgS K F f L l (o j)))), some (.int (nI (j))), some (.int (nI (fgS K F f L l (o j))))] d_rm_nextPlace_62 (Nat.le_of_ble_eq_true rfl) rfl ?_
            refine Ex_iincN (j) 1 [some (.ref 38), some (.int (nI (o j))), some (.int (nI (fgS K F f L l (o j)))), some (.int (nI (j + 1))), some (.int (nI (fgS K F f L l (o j))))] d_rm_nextPlace_63 rfl rfl rfl rfl ?_
            refine Ex_goto 6 d_rm_nextPlace_66 rfl ?_
            refine Ex_forget (ls' := [some (.ref 38), some (.int (nI (o j))), some (.int (nI (fgS K F f L l (o j)))), some (.int (nI (j + 1))), none]) (sub_s (sub_s (sub_s (sub_s (sub_n sub_0))))) ?_
            simp only [vN, gOf, ← nIJ] at ih
            exact ih
          · exact absurd hc44 (by decide)
        · have hb := (hnp b rfl).1
          have hfb := fgS_le (K := K) (F := F) (f := f) (L := L) (l := l) (k := b)
          show Ex S rm_nextPlace 43 [some (.ref 38), some (.int (J ((b : Int)))), some (.int (nI (fgS K F f L l b))), some (.int (nI (j))), some (.int (nI (fgS K F f L l (o j))))] [] h _
          rw [← nIJ]
          refine Ex_iload_n d_rm_nextPlace_43 rfl ?_
          refine Ex_if_ltN (b) 53 d_rm_nextPlace_44 rfl rfl (by omega) (fun hc44 => ?_) (fun hc44 => ?_)
          · exfalso; omega
          · refine Ex_iload d_rm_nextPlace_47 rfl ?_
            refine Ex_iload_n d_rm_nextPlace_49 rfl ?_
            refine Ex_icmp_geN (fgS K F f L l (o j)) (fgS K F f L l b) 63 d_rm_nextPlace_50 rfl rfl rfl (by omega) (by omega) (fun hc50 => ?_) (fun hc50 => ?_)
            · refine Ex_iincN (j) 1 [some (.ref 38), some (.int (nI (b))), some (.int (nI (fgS K F f L l b))), some (.int (nI (j + 1))), some (.int (nI (fgS K F f L l (o j))))] d_rm_nextPlace_63 rfl rfl rfl rfl ?_
              refine Ex_goto 6 d_rm_nextPlace_66 rfl ?_
              refine Ex_forget (ls' := [some (.ref 38), some (.int (nI (b))), some (.int (nI (fgS K F f L l b))), some (.int (nI (j + 1))), none]) (sub_s (sub_s (sub_s (sub_s (sub_n sub_0))))) ?_
              dsimp only at ih
              rw [if_neg (by omega)] at ih
              simp only [vN, gOf, ← nIJ] at ih
              exact ih
            · refine Ex_aload_n d_rm_nextPlace_53 rfl ?_
              refine Ex_getR (v := .ref 71) d_rm_nextPlace_54 pf_rm_109 rfl (t_38 hs) (r_38_46 hs) ?_
              refine Ex_iload_n d_rm_nextPlace_57 rfl ?_
              refine Ex_ialoadN (a := j) (y := (nI (o j))) d_rm_nextPlace_58 (t_71 hs) rfl (by omega) (by decide) (hQ.2.2 j hj) ?_
              refine Ex_istore_n [some (.ref 38), some (.int (nI (o j))), some (.int (nI (fgS K F f L l b))), some (.int (nI (j))), some (.int (nI (fgS K F f L l (o j))))] d_rm_nextPlace_59 (Nat.le_of_ble_eq_true rfl) rfl ?_
              refine Ex_iload d_rm_nextPlace_60 rfl ?_
              refine Ex_istore_n [some (.ref 38), some (.int (nI (o j))), some (.int (nI (fgS K F f L l (o j)))), some (.int (nI (j))), some (.int (nI (fgS K F f L l (o j))))] d_rm_nextPlace_62 (Nat.le_of_ble_eq_true rfl) rfl ?_
              refine Ex_iincN (j) 1 [some (.ref 38), some (.int (nI (o j))), some (.int (nI (fgS K F f L l (o j)))), some (.int (nI (j + 1))), some (.int (nI (fgS K F f L l (o j))))] d_rm_nextPlace_63 rfl rfl rfl rfl ?_
              refine Ex_goto 6 d_rm_nextPlace_66 rfl ?_
              refine Ex_forget (ls' := [some (.ref 38), some (.int (nI (o j))), some (.int (nI (fgS K F f L l (o j)))), some (.int (nI (j + 1))), none]) (sub_s (sub_s (sub_s (sub_s (sub_n sub_0))))) ?_
              dsimp only at ih
              rw [if_pos (by omega)] at ih
              simp only [vN, gOf, ← nIJ] at ih
              exact ih
      · have hln : ¬ L (o j) = none := fun z => hc25 ((eP_z hO.1 (hL _)).mpr z)
        rw [npF_f (by unfold wtB; rw [decide_eq_true_eq]; exact fun z => hln z.2)] at ih
        refine Ex_goto 63 d_rm_nextPlace_28 rfl ?_
        refine Ex_iincN (j) 1 [some (.ref 38), some (.int (J (vN (npF (wtB F f L) (fgS K F f L l) (o j))))), some (.int (nI (gOf (fgS K F f L l) (npF (wtB F f L) (fgS K F f L l) (o j))))), some (.int (nI (j + 1))), none] d_rm_nextPlace_63 rfl rfl rfl rfl ?_
        refine Ex_goto 6 d_rm_nextPlace_66 rfl ?_
        exact ih
theorem rm_nextPlace_s {S : mj_S} {h : mj_H} (hs : HT h) {K : SK} (hK : KM K h) (hO : KO K) {F : SF} (hFO : FO K.1 F) {f : Nat} (hf : f < F.1) (hF : FT1 F f h) {L : Nat → Pl} (hL : okLy K.1 L) {l : Nat → Nat} (hM : SM K.1 F f L l h) (hl : ∀ k, k < 40 → l k < 2147483648) {n : Nat} {o : Nat → Nat} (hQ : OM F f n o h) : Cl S rm_nextPlace [.ref 38] h (Pu (.int (J (vN (npS K F f L l)))) h) := by
  show Ex S rm_nextPlace 0 [some (.ref 38), none, none, none, none] [] h _
  refine Ex_iconst d_rm_nextPlace_0 ic_m1 ?_
  refine Ex_istore_n [some (.ref 38), some (.int (-1)), none, none, none] d_rm_nextPlace_1 (Nat.le_of_ble_eq_true rfl) rfl ?_
  refine Ex_iconst d_rm_nextPlace_2 ic_0 ?_
  refine Ex_istore_n [some (.ref 38), some (.int (-1)), some (.int (0)), none, none] d_rm_nextPlace_3 (Nat.le_of_ble_eq_true rfl) rfl ?_
  refine Ex_iconst d_rm_nextPlace_4 ic_0 ?_
  refine Ex_istore_n [some (.ref 38), some (.int (-1)), some (.int (0)), some (.int (0)), none] d_rm_nextPlace_5 (Nat.le_of_ble_eq_true rfl) rfl ?_
  have z := rm_nextPlace_L (S := S) hs hK hO hFO hf hF hL hM hl hQ n 0 (by omega)
  rw [np_0 hQ.1] at z
  exact z
