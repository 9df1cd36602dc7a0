/-! THE SEARCH as a machine of turns, and what holds along it. -/
def cK (t : Nat → Nat) (k : Nat) : Nat → Nat
  | 0 => 0
  | i + 1 => cK t k i + (if (t i - 1) / 8 = k then 1 else 0)
def cS (K : SK) (t : Nat → Nat) : Nat → Nat
  | 0 => 0
  | i + 1 => cS K t i + kC K ((t i - 1) / 8)
theorem cK_c {t u : Nat → Nat} (k : Nat) : ∀ m, (∀ i, i < m → t i = u i) → cK t k m = cK u k m
  | 0, _ => rfl
  | m + 1, h => by
    unfold cK
    rw [cK_c k m (fun i hi => h i (by omega)), h m (by omega)]
theorem cS_c {K : SK} {t u : Nat → Nat} : ∀ m, (∀ i, i < m → t i = u i) → cS K t m = cS K u m
  | 0, _ => rfl
  | m + 1, h => by
    unfold cS
    rw [cS_c m (fun i hi => h i (by omega)), h m (by omega)]
theorem cS_le {K : SK} (hO : KO K) {t : Nat → Nat} : ∀ m, (∀ i, i < m → 1 ≤ t i ∧ t i ≤ 8 * K.1) → cS K t m ≤ 1000 * m
  | 0, _ => Nat.le_refl _
  | m + 1, h => by
    have h1 := cS_le hO m (fun i hi => h i (by omega))
    have h2 := h m (by omega)
    have h3 := (hO.2 ((t m - 1) / 8) (by omega)).2.2
    unfold cS
    omega
def LyI (K : SK) (F : SF) (f n m : Nat) (L : Nat → Pl) (l p t : Nat → Nat) (c : Nat) : Prop := m ≤ n ∧ (∀ i, i < m → (p i < 64 ∧ opF F f (p i)) ∧ (1 ≤ t i ∧ t i ≤ 8 * K.1) ∧ L (p i) = some ((t i - 1) / 8, (t i - 1) % 8)) ∧ (∀ i j, i < j → j < m → p i ≠ p j) ∧ (∀ k, (∀ i, i < m → k ≠ p i) → L k = none) ∧ (∀ k, l k + cK t k m = fS F f k) ∧ c = cS K t m
theorem LyI_p {K : SK} {F : SF} {f n m : Nat} {L : Nat → Pl} {l p t : Nat → Nat} {c : Nat} (h : LyI K F f n m L l p t c) {p' : Nat → Nat} (hp : ∀ i, i < m → p' i = p i) {t' : Nat → Nat} (ht : ∀ i, i < m → t' i = t i) : LyI K F f n m L l p' t' c := by
  obtain ⟨h1, h2, h3, h4, h5, h6⟩ := h
  refine ⟨h1, fun i hi => ?_, fun i j hij hj => ?_, fun k hk => h4 k (fun i hi => ?_), fun k => ?_, ?_⟩
  · rw [hp i hi, ht i hi]; exact h2 i hi
  · rw [hp i (by omega), hp j hj]; exact h3 i j hij hj
  · rw [← hp i hi]; exact hk i hi
  · rw [cK_c k m ht]; exact h5 k
  · rw [cS_c m ht]; exact h6
theorem LyI_lay {K : SK} {F : SF} {f n m : Nat} {L : Nat → Pl} {l p t : Nat → Nat} {c : Nat} (h : LyI K F f n m L l p t c) (hm : m < n) (hp : p m < 64 ∧ opF F f (p m)) (hL : L (p m) = none) {x : Nat} (hx : x < 8 * K.1) (hl : 0 < l (x / 8)) : LyI K F f n (m + 1) (lyS L (p m) (some (x / 8, x % 8))) (leS l (x / 8) (l (x / 8) - 1)) p (va_up t m (x + 1)) (c + kC K (x / 8)) := by
  obtain ⟨h1, h2, h3, h4, h5, h6⟩ := h
  have e1 : ∀ i, i < m → va_up t m (x + 1) i = t i := fun i hi => if_neg (by omega)
  have e2 : va_up t m (x + 1) m = x + 1 := if_pos rfl
  have hne : ∀ i, i < m → p i ≠ p m := fun i hi z => by
    have := (h2 i hi).2.2
    rw [z, hL] at this
    cases this
  refine ⟨hm, fun i hi => ?_, fun i j hij hj => ?_, fun k hk => ?_, fun k => ?_, ?_⟩
  · by_cases z : i = m
    · subst z
      rw [e2]
      exact ⟨hp, ⟨by omega, by omega⟩, if_pos rfl⟩
    · rw [e1 i (by omega)]
      obtain ⟨a1, a2, a3⟩ := h2 i (by omega)
      exact ⟨a1, a2, (if_neg (hne i (by omega))).trans a3⟩
  · by_cases z : j = m
    · rw [z]; exact hne i (by omega)
    · exact h3 i j hij (by omega)
  · exact (if_neg (hk m (by omega))).trans (h4 k (fun i hi => hk i (by omega)))
  · have h5 := h5 k
    unfold cK
    rw [e2, cK_c k m e1, Nat.add_sub_cancel]
    unfold leS va_up
    by_cases z : k = x / 8
    · subst z; rw [if_pos rfl, if_pos rfl]; omega
    · rw [if_neg z, if_neg (fun w => z w.symm)]; omega
  · unfold cS
    rw [e2, cS_c m e1, Nat.add_sub_cancel, h6]
theorem LyI_lift {K : SK} {F : SF} {f n m : Nat} {L : Nat → Pl} {l p t : Nat → Nat} {c : Nat} (h : LyI K F f n (m + 1) L l p t c) : LyI K F f n m (lyS L (p m) none) (leS l ((t m - 1) / 8) (l ((t m - 1) / 8) + 1)) p t (c - kC K ((t m - 1) / 8)) ∧ kC K ((t m - 1) / 8) ≤ c ∧ (p m < 64 ∧ opF F f (p m)) ∧ L (p m) = some ((t m - 1) / 8, (t m - 1) % 8) ∧ (1 ≤ t m ∧ t m ≤ 8 * K.1) := by
  obtain ⟨h1, h2, h3, h4, h5, h6⟩ := h
  obtain ⟨a1, a2, a3⟩ := h2 m (by omega)
  have h6 : c = cS K t m + kC K ((t m - 1) / 8) := h6
  refine ⟨⟨by omega, fun i hi => ?_, fun i j hij hj => h3 i j hij (by omega), fun k hk => ?_, fun k => ?_, by omega⟩, by omega, a1, a3, a2⟩
  · obtain ⟨b1, b2, b3⟩ := h2 i (by omega)
    exact ⟨b1, b2, (if_neg (h3 i m (by omega) (by omega))).trans b3⟩
  · unfold lyS va_up
    by_cases z : k = p m
    · rw [if_pos z]
    · rw [if_neg z]
      refine h4 k (fun i hi => ?_)
      by_cases w : i = m
      · rw [w]; exact z
      · exact hk i (by omega)
  · have h5 : l k + (cK t k m + (if (t m - 1) / 8 = k then 1 else 0)) = fS F f k := h5 k
    unfold leS va_up
    by_cases z : k = (t m - 1) / 8
    · subst z
      rw [if_pos rfl] at h5
      rw [if_pos rfl]
      omega
    · rw [if_neg (fun w => z w.symm)] at h5
      rw [if_neg z]
      omega
theorem LyI_ok {K : SK} {F : SF} {f n m : Nat} {L : Nat → Pl} {l p t : Nat → Nat} {c : Nat} (h : LyI K F f n m L l p t c) : okLy K.1 L := by
  intro k
  by_cases z : ∀ i, i < m → k ≠ p i
  · rw [h.2.2.2.1 k z]; exact trivial
  · obtain ⟨i, hi⟩ := Classical.not_forall.mp z
    obtain ⟨hi, hk⟩ := Classical.not_imp.mp hi
    obtain ⟨a1, a2, a3⟩ := h.2.1 i hi
    rw [Classical.not_not.mp hk, a3]
    exact ⟨by omega, by omega⟩
theorem LyI_l {K : SK} {F : SF} (hFO : FO K.1 F) {f n m : Nat} (hf : f < F.1) {L : Nat → Pl} {l p t : Nat → Nat} {c : Nat} (h : LyI K F f n m L l p t c) (k : Nat) (hk : k < 40) : l k ≤ 99 := by
  have h1 := h.2.2.2.2.1 k
  have h2 := ((hFO.2.2 f hf).2.2 k hk).1
  omega
theorem pige : ∀ (m n : Nat) (g : Nat → Nat), (∀ i, i < m → g i < n) → (∀ i j, i < j → j < m → g i ≠ g j) → m ≤ n
  | 0, _, _, _, _ => Nat.zero_le _
  | m + 1, n, g, h1, h2 => by
    have hn : 0 < n := by have := h1 m (by omega); omega
    have z := pige m (n - 1) (fun i => if g i = n - 1 then g m else g i) (fun i hi => by
      have a1 := h1 i (by omega)
      have a2 := h1 m (by omega)
      have a3 := h2 i m hi (by omega)
      show (if g i = n - 1 then g m else g i) < n - 1
      split <;> omega) (fun i j hij hj => by
      have a1 := h2 i j hij (by omega)
      have a2 := h2 i m (by omega) (by omega)
      have a3 := h2 j m hj (by omega)
      show (if g i = n - 1 then g m else g i) ≠ (if g j = n - 1 then g m else g j)
      split <;> split <;> omega)
    omega
theorem LyI_np0 {K : SK} {F : SF} {f n m : Nat} {L : Nat → Pl} {l p t : Nat → Nat} {c : Nat} (h : LyI K F f n m L l p t c) {o : Nat → Nat} (hE : EnO (opF F f) 64 n o) (hm : m < n) : ∃ b, npS K F f L l = some b ∧ b < 64 ∧ opF F f b ∧ L b = none := by
  have hD := fun b => npF_D (D := wtB F f L) (g := fgS K F f L l) 64 (b := b)
  have hN := npF_none (D := wtB F f L) (g := fgS K F f L l) 64
  unfold npS
  generalize npF (wtB F f L) (fgS K F f L l) 64 = r at hD hN
  rcases r with _ | b
  · exfalso
    have hN := hN rfl
    have hall : ∀ j, j < n → ∃ i, i < m ∧ p i = o j := fun j hj => by
      obtain ⟨a1, a2⟩ := hE.1 j hj
      have h1 := hN (o j) a1
      unfold wtB at h1
      rw [decide_eq_true_eq] at h1
      apply Classical.byContradiction
      intro hc
      exact h1 ⟨a2, h.2.2.2.1 (o j) (fun i hi z => hc ⟨i, hi, z.symm⟩)⟩
    have z := pige n m (fun j => if hj : j < n then Classical.choose (hall j hj) else 0) (fun j hj => by
      show (if hj : j < n then Classical.choose (hall j hj) else 0) < m
      rw [dif_pos hj]
      exact (Classical.choose_spec (hall j hj)).1) (fun i j hij hj => by
      show (if hj : i < n then Classical.choose (hall i hj) else 0) ≠ (if hj : j < n then Classical.choose (hall j hj) else 0)
      rw [dif_pos (show i < n by omega), dif_pos hj]
      intro w
      have w1 := (Classical.choose_spec (hall i (by omega))).2
      have w2 := (Classical.choose_spec (hall j hj)).2
      rw [w] at w1
      have := hE.2.1 i j hij hj
      omega)
    omega
  · have h1 := hD b rfl
    have h2 := h1.2
    unfold wtB at h2
    rw [decide_eq_true_eq] at h2
    exact ⟨b, rfl, h1.1, h2.1, h2.2⟩
theorem LyI_npn {K : SK} {F : SF} {f n : Nat} {L : Nat → Pl} {l p t : Nat → Nat} {c : Nat} (h : LyI K F f n n L l p t c) {o : Nat → Nat} (hE : EnO (opF F f) 64 n o) : npS K F f L l = none := by
  have hD := fun b => npF_D (D := wtB F f L) (g := fgS K F f L l) 64 (b := b)
  unfold npS
  generalize npF (wtB F f L) (fgS K F f L l) 64 = r at hD
  rcases r with _ | b
  · rfl
  · exfalso
    have h1 := hD b rfl
    have h2 := h1.2
    unfold wtB at h2
    rw [decide_eq_true_eq] at h2
    have hne : ∀ i, i < n → p i ≠ b := fun i hi z => by
      have := (h.2.1 i hi).2.2
      rw [z, h2.2] at this
      cases this
    have hall : ∀ i, i < n + 1 → ∃ j, j < n ∧ o j = va_up p n b i := fun i hi => by
      by_cases z : i = n
      · subst z
        rw [show va_up p i b i = b from if_pos rfl]
        exact hE.2.2 b h1.1 h2.1
      · rw [show va_up p n b i = p i from if_neg z]
        have a1 := (h.2.1 i (by omega)).1
        exact hE.2.2 (p i) a1.1 a1.2
    have z := pige (n + 1) n (fun j => if hj : j < n + 1 then Classical.choose (hall j hj) else 0) (fun j hj => by
      show (if hj : j < n + 1 then Classical.choose (hall j hj) else 0) < n
      rw [dif_pos hj]
      exact (Classical.choose_spec (hall j hj)).1) (fun i j hij hj => by
      show (if hj : i < n + 1 then Classical.choose (hall i hj) else 0) ≠ (if hj : j < n + 1 then Classical.choose (hall j hj) else 0)
      rw [dif_pos (show i < n + 1 by omega), dif_pos hj]
      intro w
      have w1 := (Classical.choose_spec (hall i (by omega))).2
      have w2 := (Classical.choose_spec (hall j hj)).2
      rw [w] at w1
      have w3 := w1.symm.trans w2
      rw [show va_up p n b i = p i from if_neg (by omega)] at w3
      by_cases q : j = n
      · rw [show va_up p n b j = b from if_pos q] at w3
        exact hne i (by omega) w3
      · rw [show va_up p n b j = p j from if_neg q] at w3
        exact h.2.2.1 i j hij (by omega) w3)
    omega
abbrev ZS : Type := (Nat → Pl) × (Nat → Nat) × Nat × (Nat → Nat) × (Nat → Nat) × Nat × Nat × Nat × Nat × Nat × (Nat → Pl)
def zL (Z : ZS) : Nat → Pl := Z.1
def zl (Z : ZS) : Nat → Nat := Z.2.1
def zd (Z : ZS) : Nat := Z.2.2.1
def zp (Z : ZS) : Nat → Nat := Z.2.2.2.1
def zt (Z : ZS) : Nat → Nat := Z.2.2.2.2.1
def zs (Z : ZS) : Nat := Z.2.2.2.2.2.1
def ze (Z : ZS) : Nat := Z.2.2.2.2.2.2.1
def zf (Z : ZS) : Nat := Z.2.2.2.2.2.2.2.1
def zc (Z : ZS) : Nat := Z.2.2.2.2.2.2.2.2.1
def zb (Z : ZS) : Nat := Z.2.2.2.2.2.2.2.2.2.1
def zG (Z : ZS) : Nat → Pl := Z.2.2.2.2.2.2.2.2.2.2
def shL (F : SF) (f : Nat) (L : Nat → Pl) (k : Nat) : Pl := if opF F f k then L k else none
def psB (K : SK) (n : Nat) (y : Bool) (a : Nat) (Z : ZS) (x : Nat) : Bool := decide (y = true ∧ 0 < zf Z ∧ zb Z ≤ zc Z + kC K (x / 8) + a * (n - zd Z - 1))
def nxS (K : SK) (F : SF) (f n : Nat) (y : Bool) (a : Nat) (Z : ZS) : Option Nat := sc (fun x => fitB K F f (zL Z) (zl Z) (zp Z (zd Z)) x && !psB K n y a Z x) (8 * K.1 - zt Z (zd Z)) (zt Z (zd Z)) 0
def qZ (Z : ZS) (e : Nat) : Nat := (zt Z e - 1) / 8
def liZ (K : SK) (Z : ZS) (e : Nat) : ZS := (lyS (zL Z) (zp Z e) none, leS (zl Z) (qZ Z e) (zl Z (qZ Z e) + 1), e, zp Z, zt Z, zs Z, ze Z, zf Z, zc Z - kC K (qZ Z e), zb Z, zG Z)
def laZ (K : SK) (Z : ZS) (x : Nat) : ZS := (lyS (zL Z) (zp Z (zd Z)) (some (x / 8, x % 8)), leS (zl Z) (x / 8) (zl Z (x / 8) - 1), zd Z, zp Z, va_up (zt Z) (zd Z) (x + 1), zs Z + 1, ze Z + 1, zf Z, zc Z + kC K (x / 8), zb Z, zG Z)
def puZ (Z : ZS) (b : Nat) : ZS := (zL Z, zl Z, zd Z + 1, va_up (zp Z) (zd Z + 1) b, va_up (zt Z) (zd Z + 1) 0, zs Z, ze Z, zf Z, zc Z, zb Z, zG Z)
def fiZ (F : SF) (f : Nat) (Z : ZS) : ZS := (zL Z, zl Z, zd Z, zp Z, zt Z, zs Z, ze Z, zf Z + 1, zc Z, zc Z, shL F f (zL Z))
def tnS (K : SK) (F : SF) (f n w : Nat) (y : Bool) (a : Nat) (Z : ZS) : ZS × Option Bool := match nxS K F f n y a Z with
  | none => if zd Z = 0 then (Z, some false) else (liZ K Z (zd Z - 1), none)
  | some x => if zs Z = 30000 ∨ ze Z = 600000 then (Z, some true) else (match npS K F f (zL (laZ K Z x)) (zl (laZ K Z x)) with
    | some b => (puZ (laZ K Z x) b, none)
    | none => if w ≤ zf Z + 1 then (fiZ F f (laZ K Z x), some false) else (liZ K (fiZ F f (laZ K Z x)) (zd Z), none))
def rnS (K : SK) (F : SF) (f n w : Nat) (y : Bool) (a : Nat) : Nat → ZS → ZS × Bool
  | 0, Z => (Z, true)
  | N + 1, Z => match (tnS K F f n w y a Z).2 with
    | some b => ((tnS K F f n w y a Z).1, b)
    | none => rnS K F f n w y a N (tnS K F f n w y a Z).1
def zI (K : SK) (F : SF) (f n m : Nat) (Z : ZS) : Prop := LyI K F f n m (zL Z) (zl Z) (zp Z) (zt Z) (zc Z) ∧ (zs Z ≤ 30000 ∧ ze Z ≤ 600000 ∧ zf Z ≤ zs Z ∧ zb Z ≤ 64000) ∧ okLy K.1 (zG Z)
def zO (K : SK) (F : SF) (f n : Nat) (Z : ZS) : Prop := zI K F f n (zd Z) Z ∧ zd Z < n ∧ (zp Z (zd Z) < 64 ∧ opF F f (zp Z (zd Z))) ∧ zL Z (zp Z (zd Z)) = none ∧ zt Z (zd Z) ≤ 8 * K.1
def zW (Z : ZS) : Nat := 2 * (30000 - zs Z) + zd Z
theorem zO_li {K : SK} {F : SF} {f n e : Nat} {Z : ZS} (h : zI K F f n (e + 1) Z) : zO K F f n (liZ K Z e) ∧ kC K (qZ Z e) ≤ zc Z ∧ zL Z (zp Z e) = some (qZ Z e, (zt Z e - 1) % 8) ∧ (1 ≤ zt Z e ∧ zt Z e ≤ 8 * K.1) ∧ (zp Z e < 64 ∧ opF F f (zp Z e)) := by
  obtain ⟨h1, h2, h3⟩ := h
  obtain ⟨a1, a2, a3, a4, a5⟩ := LyI_lift h1
  exact ⟨⟨⟨a1, h2, h3⟩, h1.1, a3, if_pos rfl, a5.2⟩, a2, a4, a5, a3⟩
theorem nx_b {K : SK} {F : SF} {f n : Nat} {y : Bool} {a : Nat} {Z : ZS} {x : Nat} (h : nxS K F f n y a Z = some x) (ht : zt Z (zd Z) ≤ 8 * K.1) : x < 8 * K.1 ∧ 0 < zl Z (x / 8) := by
  obtain ⟨h1, h2, h3, h4⟩ := sc_b _ _ h
  rw [Bool.and_eq_true] at h3
  exact ⟨by omega, (fitB_iff.mp h3.1).1⟩
theorem zI_la {K : SK} {F : SF} {f n : Nat} {Z : ZS} (h : zO K F f n Z) {x : Nat} (hx : x < 8 * K.1) (hl : 0 < zl Z (x / 8)) (hs : ¬ (zs Z = 30000 ∨ ze Z = 600000)) : zI K F f n (zd Z + 1) (laZ K Z x) := by
  obtain ⟨⟨h1, h2, h3⟩, h4, h5, h6, h7⟩ := h
  exact ⟨LyI_lay h1 h4 h5 h6 hx hl, ⟨by show zs Z + 1 ≤ _; omega, by show ze Z + 1 ≤ _; omega, by show zf Z ≤ zs Z + 1; omega, h2.2.2.2⟩, h3⟩
theorem zO_pu {K : SK} {F : SF} {f n : Nat} {Z : ZS} (h : zI K F f n (zd Z + 1) Z) {b : Nat} (hn : zd Z + 1 < n) (hb : b < 64 ∧ opF F f b) (hL : zL Z b = none) : zO K F f n (puZ Z b) := by
  obtain ⟨h1, h2, h3⟩ := h
  have e2 : va_up (zp Z) (zd Z + 1) b (zd Z + 1) = b := if_pos rfl
  refine ⟨⟨LyI_p h1 (fun i hi => if_neg (by omega)) (fun i hi => if_neg (by omega)), h2, h3⟩, hn, ?_, ?_, ?_⟩
  · show va_up (zp Z) (zd Z + 1) b (zd Z + 1) < 64 ∧ opF F f (va_up (zp Z) (zd Z + 1) b (zd Z + 1))
    rw [e2]; exact hb
  · show zL Z (va_up (zp Z) (zd Z + 1) b (zd Z + 1)) = none
    rw [e2]; exact hL
  · show va_up (zt Z) (zd Z + 1) 0 (zd Z + 1) ≤ _
    rw [show va_up (zt Z) (zd Z + 1) 0 (zd Z + 1) = 0 from if_pos rfl]
    omega
theorem zI_fi {K : SK} (hO : KO K) {F : SF} {f n m : Nat} {Z : ZS} (h : zI K F f n m Z) (hn : n ≤ 64) (hf : zf Z < zs Z) : zI K F f n m (fiZ F f Z) := by
  obtain ⟨h1, h2, h3⟩ := h
  have hc := cS_le hO m (fun i hi => (h1.2.1 i hi).2.1)
  have h6 := h1.2.2.2.2.2
  have hm := h1.1
  refine ⟨h1, ⟨h2.1, h2.2.1, hf, by show zc Z ≤ _; omega⟩, fun k => ?_⟩
  show okP K.1 (if opF F f k then zL Z k else none)
  split
  · exact LyI_ok h1 k
  · exact trivial
theorem EnO_cn {p : Nat → Prop} {g : Nat → Bool} (hg : ∀ k, g k = true ↔ p k) {N n : Nat} {o : Nat → Nat} (h : EnO p N n o) : ∀ j, j ≤ n → cnB g 0 (oN N n o j) = j
  | 0, _ => by
    refine cnB_0 _ 0 (fun m _ h2 z => EnO_gap0 h m (by omega) ((hg m).mp z))
  | j + 1, hj => by
    have h1 := EnO_cn hg h j (by omega)
    have h2 := oN_gt h (show j < n by omega)
    rw [show oN N n o j = o j from if_pos (by omega)] at h1
    have z := cnB_a g (o j) (oN N n o (j + 1) - o j) 0
    rw [show o j + (oN N n o (j + 1) - o j) = oN N n o (j + 1) by omega, h1, Nat.zero_add, show oN N n o (j + 1) - o j = (oN N n o (j + 1) - o j - 1) + 1 by omega] at z
    rw [z, show cnB g (o j) ((oN N n o (j + 1) - o j - 1) + 1) = (if g (o j) = true then 1 else 0) + cnB g (o j + 1) (oN N n o (j + 1) - o j - 1) from rfl, if_pos ((hg _).mpr (h.1 j (by omega)).2), cnB_0 _ _ (fun m h3 h4 w => EnO_gap h (show j < n by omega) m h3 (by omega) ((hg m).mp w))]
def nOp (F : SF) (f : Nat) : Nat := cnB (fun k => decide (opF F f k)) 0 64
theorem EnO_nOp {F : SF} {f n : Nat} {o : Nat → Nat} (h : EnO (opF F f) 64 n o) : nOp F f = n := by
  have z := EnO_cn (g := fun k => decide (opF F f k)) (fun k => decide_eq_true_iff) h n (Nat.le_refl _)
  rw [show oN 64 n o n = 64 from if_neg (by omega)] at z
  exact z
