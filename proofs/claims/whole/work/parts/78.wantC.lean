/-! The class: what a place wants, and what fits among the choices. -/
def coS (K : SK) (p : Pl) (e : Nat) : Nat := match p with
  | none => 16
  | some q => kCol K q.1 q.2 e
def lyD (F : SF) (f : Nat) (L : Nat → Pl) (k e : Nat) : Pl := if 0 ≤ bsd F f k e then lyK F f L (bsd F f k e).toNat else none
def wnS (K : SK) (F : SF) (f : Nat) (L : Nat → Pl) (k e : Nat) : Nat := coS K (lyD F f L k e) ((e + 2) % 4)
theorem kCol_16 (K : SK) (k m e : Nat) : kCol K k m e < 16 := Nat.mod_lt _ (by decide)
theorem coS_17 (K : SK) (p : Pl) (e : Nat) : coS K p e < 17 := by
  match p with
  | none => exact (by decide : 16 < 17)
  | some q => exact Nat.lt_succ_of_lt (kCol_16 K q.1 q.2 e)
theorem lyA_D {F : SF} {f : Nat} {L : Nat → Pl} {k e : Nat} {i j : Int} (hi : i = ((k / 8 : Nat) : Int) + dBi e) (hj : j = ((k % 8 : Nat) : Int) + dBj e) : lyA F f L i j = lyD F f L k e := by
  subst hi; subst hj
  unfold lyA lyD bsd bsI
  by_cases h : 0 ≤ ((k / 8 : Nat) : Int) + dBi e ∧ ((k / 8 : Nat) : Int) + dBi e < fR F f ∧ 0 ≤ ((k % 8 : Nat) : Int) + dBj e ∧ ((k % 8 : Nat) : Int) + dBj e < fC F f
  · rw [if_pos h, if_pos ⟨h.1, h.2.2.1, h.2.1, h.2.2.2⟩, if_pos (by omega)]
    congr 1
    omega
  · rw [if_neg h, if_neg (fun z => h ⟨z.1, z.2.2.1, z.2.1, z.2.2.2⟩), if_neg (by decide)]
abbrev wkB (w c : Nat) : Prop := w = 16 ∨ c = w
theorem fit_w {K : SK} {q : Nat × Nat} {p : Pl} {e : Nat} : fitT K (plT (some q)) (plT p) e = decide (wkB (coS K p ((e + 2) % 4)) (kCol K q.1 q.2 e)) := by
  match p with
  | none => rfl
  | some r =>
    show decide (kCol K q.1 q.2 e = kCol K r.1 r.2 ((e + 2) % 4)) = decide (kCol K r.1 r.2 ((e + 2) % 4) = 16 ∨ kCol K q.1 q.2 e = kCol K r.1 r.2 ((e + 2) % 4))
    have := kCol_16 K r.1 r.2 ((e + 2) % 4)
    exact decide_eq_decide.mpr ⟨fun z => Or.inr z, fun z => z.resolve_left (by omega)⟩
theorem may_w {K : SK} {F : SF} {f : Nat} {L : Nat → Pl} {k : Nat} {q : Nat × Nat} : mayB K F f L k (some q) = true ↔ ∀ e, e < 4 → wkB (wnS K F f L k e) (kCol K q.1 q.2 e) := by
  unfold mayB
  rw [lyA_D (k := k) (e := 0) (i := ((k / 8 : Nat) : Int) - 1) (j := ((k % 8 : Nat) : Int)) (by show _ = _ + (-1 : Int); omega) (by show _ = _ + (0 : Int); omega),
    lyA_D (k := k) (e := 1) (i := ((k / 8 : Nat) : Int)) (j := ((k % 8 : Nat) : Int) + 1) (by show _ = _ + (0 : Int); omega) (by show _ = _ + (1 : Int); omega),
    lyA_D (k := k) (e := 2) (i := ((k / 8 : Nat) : Int) + 1) (j := ((k % 8 : Nat) : Int)) (by show _ = _ + (1 : Int); omega) (by show _ = _ + (0 : Int); omega),
    lyA_D (k := k) (e := 3) (i := ((k / 8 : Nat) : Int)) (j := ((k % 8 : Nat) : Int) - 1) (by show _ = _ + (0 : Int); omega) (by show _ = _ + (-1 : Int); omega)]
  rw [fit_w, fit_w, fit_w, fit_w, Bool.and_eq_true, Bool.and_eq_true, Bool.and_eq_true, decide_eq_true_eq, decide_eq_true_eq, decide_eq_true_eq, decide_eq_true_eq]
  refine ⟨fun z e he => ?_, fun z => ⟨z 0 (by decide), z 1 (by decide), z 2 (by decide), z 3 (by decide)⟩⟩
  obtain rfl | rfl | rfl | rfl : e = 0 ∨ e = 1 ∨ e = 2 ∨ e = 3 := by omega
  · exact z.1
  · exact z.2.1
  · exact z.2.2.1
  · exact z.2.2.2
def bM (K : SK) (s : Nat) (cd : Nat → Nat) (e w c : Nat) : Bool := decide (c < s ∧ wkB w (kCol K (cd c / 8) (cd c % 8) e))
def bL (s : Nat) (cd : Nat → Nat) (l : Nat → Nat) (c : Nat) : Bool := decide (c < s ∧ 0 < l (cd c / 8))
def gE (K : SK) (s : Nat) (cd l : Nat → Nat) (wn : Nat → Nat) : Nat → Nat → Bool
  | 0 => bL s cd l
  | e + 1 => fun c => gE K s cd l wn e c && bM K s cd e (wn e) c
theorem gE_iff {K : SK} {s : Nat} {cd l wn : Nat → Nat} {c : Nat} : ∀ n, gE K s cd l wn n c = true ↔ (c < s ∧ 0 < l (cd c / 8)) ∧ ∀ e, e < n → wkB (wn e) (kCol K (cd c / 8) (cd c % 8) e)
  | 0 => by
    show decide _ = true ↔ _
    rw [decide_eq_true_eq]
    exact ⟨fun z => ⟨z, fun e he => absurd he (Nat.not_lt_zero _)⟩, fun z => z.1⟩
  | n + 1 => by
    show (gE K s cd l wn n c && bM K s cd n (wn n) c) = true ↔ _
    rw [Bool.and_eq_true, gE_iff n, bM, decide_eq_true_eq]
    refine ⟨fun z => ⟨z.1.1, fun e he => ?_⟩, fun z => ⟨⟨z.1, fun e he => z.2 e (by omega)⟩, z.1.1, z.2 n (by omega)⟩⟩
    by_cases w : e = n
    · rw [w]; exact z.2.2
    · exact z.1.2 e (by omega)
theorem gE_c {K : SK} {s : Nat} {cd l l' wn wn' : Nat → Nat} {c : Nat} (n : Nat) (hl : ∀ k, 0 < l k ↔ 0 < l' k) (hw : ∀ e, e < n → wn e = wn' e) : gE K s cd l wn n c = gE K s cd l' wn' n c := by
  apply Bool.eq_iff_iff.mpr
  rw [gE_iff, gE_iff, hl]
  exact ⟨fun z => ⟨z.1, fun e he => by rw [← hw e he]; exact z.2 e he⟩, fun z => ⟨z.1, fun e he => by rw [hw e he]; exact z.2 e he⟩⟩
theorem gE_fit {K : SK} {F : SF} {f s : Nat} {cd : Nat → Nat} (hE : EnO (okN K F f) (8 * K.1) s cd) {L : Nat → Pl} {l : Nat → Nat} {k c : Nat} (hc : c < s) : gE K s cd l (wnS K F f L k) 4 c = fitB K F f L l k (cd c) := by
  apply Bool.eq_iff_iff.mpr
  rw [gE_iff, fitB_iff, may_w]
  exact ⟨fun z => ⟨z.1.2, (hE.1 c hc).2.2, z.2⟩, fun z => ⟨⟨hc, z.1⟩, z.2.2⟩⟩
theorem gE_out {K : SK} {s : Nat} {cd l wn : Nat → Nat} {n c : Nat} (hc : s ≤ c) : gE K s cd l wn n c = false := by
  rw [← Bool.not_eq_true, gE_iff]
  intro z
  omega
theorem EnO_ct {p : Nat → Prop} {N n : Nat} {o : Nat → Nat} (h : EnO p N n o) {g g' : Nat → Bool} (hg : ∀ k, k < N → g k = true → p k) (h' : ∀ c, c < n → g' c = g (o c)) : ∀ j, j ≤ n → cnB g 0 (oN N n o j) = cnB g' 0 j
  | 0, _ => by
    refine cnB_0 _ 0 (fun m _ h2 z => EnO_gap0 h m (by omega) (hg m ?_ z))
    have : oN N n o 0 ≤ N := by
      unfold oN
      split
      · have := (h.1 0 (by omega)).1; omega
      · exact Nat.le_refl _
    omega
  | j + 1, hj => by
    have h1 := EnO_ct h hg h' j (by omega)
    have h2 := oN_gt h (show j < n by omega)
    have hN : oN N n o (j + 1) ≤ N := by
      unfold oN
      split
      · have := (h.1 (j + 1) (by omega)).1; omega
      · exact Nat.le_refl _
    rw [show oN N n o j = o j from if_pos (by omega)] at h1
    have z := cnB_a g (o j) (oN N n o (j + 1) - o j) 0
    rw [show o j + (oN N n o (j + 1) - o j) = oN N n o (j + 1) by omega, h1, Nat.zero_add, show oN N n o (j + 1) - o j = (oN N n o (j + 1) - o j - 1) + 1 by omega] at z
    have y := cnB_a g' j 1 0
    rw [Nat.zero_add] at y
    rw [y, z, show cnB g (o j) ((oN N n o (j + 1) - o j - 1) + 1) = (if g (o j) = true then 1 else 0) + cnB g (o j + 1) (oN N n o (j + 1) - o j - 1) from rfl, cnB_0 _ _ (fun m h3 h4 w => EnO_gap h (show j < n by omega) m h3 (by omega) (hg m (by omega) w)), ← h' j (by omega)]
    rfl
theorem gE_ct {K : SK} {F : SF} {f s : Nat} {cd : Nat → Nat} (hE : EnO (okN K F f) (8 * K.1) s cd) (hO : KO K) {L : Nat → Pl} {l : Nat → Nat} (hl : ∀ k, l k ≤ fS F f k) {k : Nat} : cnB (gE K s cd l (wnS K F f L k) 4) 0 320 = fgS K F f L l k := by
  have h40 := hO.1
  have hs := EnO_le hE
  have z := EnO_ct hE (g := fitB K F f L l k) (g' := gE K s cd l (wnS K F f L k) 4) (fun n _ w => by
    rw [fitB_iff] at w
    exact ⟨Nat.lt_of_lt_of_le w.1 (hl _), w.2.1⟩) (fun c hc => gE_fit hE hc) s (Nat.le_refl _)
  rw [show oN (8 * K.1) s cd s = 8 * K.1 from if_neg (by omega)] at z
  have y := cnB_a (gE K s cd l (wnS K F f L k) 4) s (320 - s) 0
  rw [show s + (320 - s) = 320 by omega, cnB_0 (320 - s) (0 + s) (fun m h1 _ w => by rw [gE_out (by omega)] at w; cases w)] at y
  rw [y, ← z]
  rfl
theorem EnO_sc {p : Nat → Prop} {N n : Nat} {o : Nat → Nat} (h : EnO p N n o) {g g' : Nat → Bool} (hg : ∀ k, k < N → g k = true → p k) (h' : ∀ c, c < n → g' c = g (o c)) (h'' : ∀ c, n ≤ c → g' c = false) {M c0 t : Nat} (hM : n ≤ M) (ht : ∀ c, c < n → (t ≤ o c ↔ c0 ≤ c)) : sc g (N - t) t 0 = (sc g' (M - c0) c0 0).map o := by
  have a1 := sc_n (g := g) (N - t) t
  have a2 := fun x => sc_b (g := g) (N - t) t (n := x)
  have b1 := sc_n (g := g') (M - c0) c0
  have b2 := fun x => sc_b (g := g') (M - c0) c0 (n := x)
  generalize sc g (N - t) t 0 = r at a1 a2
  generalize sc g' (M - c0) c0 0 = r' at b1 b2
  have hlt : ∀ c, g' c = true → c < n := fun c hc => by
    rcases Nat.lt_or_ge c n with w | w
    · exact w
    · rw [h'' c w] at hc; cases hc
  rcases r with _ | m
  · rcases r' with _ | c
    · rfl
    · exfalso
      obtain ⟨q1, q2, q3, q4⟩ := b2 c rfl
      have hc := hlt c q3
      have := (h.1 c hc).1
      have := (ht c hc).mpr q1
      rw [h' c hc] at q3
      exact a1 rfl (o c) this (by omega) q3
  · obtain ⟨q1, q2, q3, q4⟩ := a2 m rfl
    obtain ⟨i, hi, rfl⟩ := h.2.2 m (by omega) (hg m (by omega) q3)
    have hci := (ht i hi).mp q1
    have gi : g' i = true := by rw [h' i hi]; exact q3
    rcases r' with _ | c
    · exact absurd gi (b1 rfl i hci (by omega))
    · obtain ⟨s1, s2, s3, s4⟩ := b2 c rfl
      have hc := hlt c s3
      rcases Nat.lt_trichotomy c i with w | w | w
      · exfalso
        have := h.2.1 c i w hi
        rw [h' c hc] at s3
        exact q4 (o c) ((ht c hc).mpr s1) this s3
      · rw [w]; rfl
      · exact absurd gi (s4 i hci w)
def nfC (K : SK) (s : Nat) (cd l wn : Nat → Nat) (c0 : Nat) : Option Nat := sc (gE K s cd l wn 4) (320 - c0) c0 0
theorem nf_C {K : SK} {F : SF} {f s : Nat} {cd : Nat → Nat} (hE : EnO (okN K F f) (8 * K.1) s cd) (hO : KO K) {L : Nat → Pl} {l : Nat → Nat} (hl : ∀ k, l k ≤ fS F f k) {k c0 t : Nat} (ht : ∀ c, c < s → (t ≤ cd c ↔ c0 ≤ c)) : nfS K F f L l k t = (nfC K s cd l (wnS K F f L k) c0).map cd := by
  have h40 := hO.1
  have hs := EnO_le hE
  exact EnO_sc hE (g := fitB K F f L l k) (g' := gE K s cd l (wnS K F f L k) 4) (fun n _ w => by
    rw [fitB_iff] at w
    exact ⟨Nat.lt_of_lt_of_le w.1 (hl _), w.2.1⟩) (fun c hc => gE_fit hE hc) (fun c hc => gE_out hc) (by omega) ht
