/-! FORETOLD, on both sides. -/
theorem JL_mod {a b : Int} (h : a % 18446744073709551616 = b % 18446744073709551616) : JL a = JL b := by
  unfold JL
  apply Int64.toInt_inj.mp
  rw [Int64.toInt_ofInt, Int64.toInt_ofInt, show Int64.size = 18446744073709551616 from rfl]
  simp only [Int.bmod_def]
  rw [show ((18446744073709551616 : Nat) : Int) = 18446744073709551616 from rfl, h]
def lM (x : Nat) : Int64 := if x < 9223372036854775808 then JL (x : Int) else JL (-1)
def lC (x : Nat) : Int64 := if x < 9223372036854775808 then JL (x : Int) else JL (-2)
theorem lM_s {x : Nat} (h : x < 9223372036854775808) : lM x = JL (x : Int) := if_pos h
theorem lM_b {x : Nat} (h : ¬ x < 9223372036854775808) : lM x = JL (-1) := if_neg h
theorem lC_s {x : Nat} (h : x < 9223372036854775808) : lC x = JL (x : Int) := if_pos h
theorem lC_b {x : Nat} (h : ¬ x < 9223372036854775808) : lC x = JL (-2) := if_neg h
theorem lM_0 {x : Nat} : lM x = 0 ↔ x = 0 := by
  by_cases h : x < 9223372036854775808
  · rw [lM_s h, show (0 : Int64) = JL 0 by decide, JL_inj (by omega) (by omega) (by omega) (by omega)]
    omega
  · rw [lM_b h, show (0 : Int64) = JL 0 by decide, JL_inj (by omega) (by omega) (by omega) (by omega)]
    omega
theorem lC_0 {x : Nat} : lC x = 0 ↔ x = 0 := by
  by_cases h : x < 9223372036854775808
  · rw [lC_s h, show (0 : Int64) = JL 0 by decide, JL_inj (by omega) (by omega) (by omega) (by omega)]
    omega
  · rw [lC_b h, show (0 : Int64) = JL 0 by decide, JL_inj (by omega) (by omega) (by omega) (by omega)]
    omega
def ftA (c : Nat → Tl) (v : Nat → Nat) : Nat → Nat → Nat
  | 0 => fun _ => 0
  | t + 1 => match c t with
    | none => ftA c v t
    | some (b, _, _) => va_up (ftA c v t) b (ftA c v t b + v (t / 16))
def ftN (n : Nat) (c : Nat → Tl) (a : Nat) : Nat → Nat → Nat
  | 0 => fun k => if k = a then 1 else 0
  | s + 1 => ftA c (ftN n c a s) (16 * n)
theorem ftA_n {c : Nat → Tl} {v : Nat → Nat} {t : Nat} (h : c t = none) : ftA c v (t + 1) = ftA c v t := by
  show (match c t with
    | none => ftA c v t
    | some (b, _, _) => va_up (ftA c v t) b (ftA c v t b + v (t / 16))) = _
  rw [h]
theorem ftA_s {c : Nat → Tl} {v : Nat → Nat} {t b m s : Nat} (h : c t = some (b, m, s)) : ftA c v (t + 1) = va_up (ftA c v t) b (ftA c v t b + v (t / 16)) := by
  show (match c t with
    | none => ftA c v t
    | some (b, _, _) => va_up (ftA c v t) b (ftA c v t b + v (t / 16))) = _
  rw [h]
theorem va_same {α : Type} (f : Nat → α) (i : Nat) : va_up f i (f i) = f := by
  funext x
  unfold va_up
  split
  · rename_i h; rw [h]
  · rfl
theorem ft_z {c : Nat → Tl} {v : Nat → Nat} {k : Nat} (hv : v k = 0) : ∀ j, j ≤ 16 → ftA c v (16 * k + j) = ftA c v (16 * k)
  | 0, _ => rfl
  | j + 1, hj => by
    have ih := ft_z (c := c) hv j (by omega)
    show ftA c v (16 * k + j + 1) = _
    cases hc : c (16 * k + j) with
    | none => rw [ftA_n hc, ih]
    | some q =>
      obtain ⟨b, m, s⟩ := q
      rw [ftA_s hc, show (16 * k + j) / 16 = k by omega, hv, Nat.add_zero, va_same, ih]
theorem ft_e {c : Nat → Tl} {v : Nat → Nat} {n : Nat} (hv : ∀ x, n ≤ x → v x = 0) : ∀ j, ftA c v (16 * (n + j)) = ftA c v (16 * n)
  | 0 => rfl
  | j + 1 => by
    have ih := ft_e (c := c) hv j
    have := ft_z (c := c) (hv (n + j) (by omega)) 16 (Nat.le_refl _)
    rw [← ih, ← this]
    congr 1
theorem ft_up {n : Nat} {c : Nat → Tl} (hc : ∀ t, t < 640 → okT n (c t)) {v : Nat → Nat} : ∀ t, t ≤ 640 → ∀ x, n ≤ x → ftA c v t x = 0
  | 0, _, _, _ => rfl
  | t + 1, ht, x, hx => by
    have ih := ft_up hc (v := v) t (by omega) x hx
    have h1 := hc t (by omega)
    cases hq : c t with
    | none => rw [ftA_n hq]; exact ih
    | some q =>
      obtain ⟨b, m, s⟩ := q
      rw [hq] at h1
      rw [ftA_s hq]
      unfold va_up
      rw [if_neg (by have := h1.1; omega)]
      exact ih
theorem ftN_up {n : Nat} (hn : n ≤ 40) {c : Nat → Tl} (hc : ∀ t, t < 640 → okT n (c t)) {a : Nat} (ha : a < n) : ∀ s x, n ≤ x → ftN n c a s x = 0
  | 0, x, hx => if_neg (by omega)
  | s + 1, x, hx => ft_up hc (16 * n) (by omega) x hx
abbrev okFt (K : SK) (R : SR) (r a s b : Int) : Prop := 0 ≤ r ∧ r < R.1 ∧ 0 ≤ a ∧ a < K.1 ∧ 0 ≤ b ∧ b < K.1 ∧ 0 ≤ s ∧ s ≤ 60
def ftV (K : SK) (R : SR) (r a s b : Int) : Int64 := if okFt K R r a s b then lC (ftN K.1 (rB R r.toNat) a.toNat s.toNat b.toNat) else -1
theorem mL_self (h : mj_H) (a k : Nat) (v : Int64) : mL (wL h a k v) a k = v := by rw [mL_wL, if_pos rfl]; unfold va_up; rw [if_pos rfl]
theorem mL_oth {h : mj_H} {a k b j : Nat} {v : Int64} (hn : b ≠ a ∨ j ≠ k) : mL (wL h a k v) b j = mL h b j := by
  rw [mL_wL]
  by_cases hb : b = a
  · subst hb
    rw [if_pos rfl]
    unfold va_up
    rw [if_neg (hn.resolve_left (fun z => z rfl))]
  · rw [if_neg hb]
theorem rm_sum_s {S : mj_S} {h : mj_H} {a b : Nat} : Cl S rm_sum [.long (lM a), .long (lM b)] h (Pu (.long (lM (a + b))) h) := by
  by_cases ha : a < 9223372036854775808
  · by_cases hb : b < 9223372036854775808
    · rw [lM_s ha, lM_s hb]
      by_cases hab : a + b < 9223372036854775808
      · show Ex S rm_sum 0 [some (.long (JL ((a : Int)))), none, some (.long (JL ((b : Int)))), none] [] h _
        refine Ex_lload_n d_rm_sum_0 rfl ?_
        refine Ex_lconst d_rm_sum_1 lc_0 ?_
        refine Ex_lcmp d_rm_sum_2 ?_
        refine Ex_if_ltLZ ((a : Int)) (0) 20 d_rm_sum_3 rfl rfl (by decide) (by omega) (by omega) (fun hc3 => ?_) (fun hc3 => ?_)
        · exfalso; omega
        · refine Ex_lload_n d_rm_sum_6 rfl ?_
          refine Ex_lconst d_rm_sum_7 lc_0 ?_
          refine Ex_lcmp d_rm_sum_8 ?_
          refine Ex_if_ltLZ ((b : Int)) (0) 20 d_rm_sum_9 rfl rfl (by decide) (by omega) (by omega) (fun hc9 => ?_) (fun hc9 => ?_)
          · exfalso; omega
          · refine Ex_lload_n d_rm_sum_12 rfl ?_
            refine Ex_lload_n d_rm_sum_13 rfl ?_
            refine Ex_laddZ ((a : Int)) ((b : Int)) d_rm_sum_14 rfl rfl ?_
            refine Ex_lconst d_rm_sum_15 lc_0 ?_
            refine Ex_lcmp d_rm_sum_16 ?_
            refine Ex_if_geLZ (((a : Int)) + ((b : Int))) (0) 26 d_rm_sum_17 rfl rfl (by decide) (by omega) (by omega) (fun hc17 => ?_) (fun hc17 => ?_)
            · refine Ex_lload_n d_rm_sum_26 rfl ?_
              refine Ex_lload_n d_rm_sum_27 rfl ?_
              refine Ex_laddZ ((a : Int)) ((b : Int)) d_rm_sum_28 rfl rfl ?_
              refine Ex_lreturn d_rm_sum_29 rfl ?_
              exact ⟨by rw [lM_s (show a + b < 9223372036854775808 by omega)]; exact congrArg (fun z => some (Value.long (JL z))) (by omega), rfl⟩
            · exfalso; omega
      · show Ex S rm_sum 0 [some (.long (JL ((a : Int)))), none, some (.long (JL ((b : Int)))), none] [] h _
        refine Ex_lload_n d_rm_sum_0 rfl ?_
        refine Ex_lconst d_rm_sum_1 lc_0 ?_
        refine Ex_lcmp d_rm_sum_2 ?_
        refine Ex_if_ltLZ ((a : Int)) (0) 20 d_rm_sum_3 rfl rfl (by decide) (by omega) (by omega) (fun hc3 => ?_) (fun hc3 => ?_)
        · exfalso; omega
        · refine Ex_lload_n d_rm_sum_6 rfl ?_
          refine Ex_lconst d_rm_sum_7 lc_0 ?_
          refine Ex_lcmp d_rm_sum_8 ?_
          refine Ex_if_ltLZ ((b : Int)) (0) 20 d_rm_sum_9 rfl rfl (by decide) (by omega) (by omega) (fun hc9 => ?_) (fun hc9 => ?_)
          · exfalso; omega
          · refine Ex_lload_n d_rm_sum_12 rfl ?_
            refine Ex_lload_n d_rm_sum_13 rfl ?_
            refine Ex_laddZ ((a : Int)) ((b : Int)) d_rm_sum_14 rfl rfl ?_
            rw [show JL ((a : Int) + (b : Int)) = JL ((a : Int) + (b : Int) - 18446744073709551616) from JL_mod (by omega)]
            refine Ex_lconst d_rm_sum_15 lc_0 ?_
            refine Ex_lcmp d_rm_sum_16 ?_
            refine Ex_if_geLZ ((a : Int) + (b : Int) - 18446744073709551616) (0) 26 d_rm_sum_17 rfl rfl (by decide) (by omega) (by omega) (fun hc17 => ?_) (fun hc17 => ?_)
            · exfalso; omega
            · refine Ex_ldc2_w pi_rm_255 d_rm_sum_20 ?_
              refine Ex_goto 29 d_rm_sum_23 rfl ?_
              refine Ex_lreturn d_rm_sum_29 rfl ?_
              exact ⟨by rw [lM_b (show ¬ a + b < 9223372036854775808 by omega)]; exact congrArg (fun z => some (Value.long z)) (by decide), rfl⟩
    · rw [lM_s ha, lM_b hb]
      show Ex S rm_sum 0 [some (.long (JL ((a : Int)))), none, some (.long (JL (-1))), none] [] h _
      refine Ex_lload_n d_rm_sum_0 rfl ?_
      refine Ex_lconst d_rm_sum_1 lc_0 ?_
      refine Ex_lcmp d_rm_sum_2 ?_
      refine Ex_if_ltLZ ((a : Int)) (0) 20 d_rm_sum_3 rfl rfl (by decide) (by omega) (by omega) (fun hc3 => ?_) (fun hc3 => ?_)
      · exfalso; omega
      · refine Ex_lload_n d_rm_sum_6 rfl ?_
        refine Ex_lconst d_rm_sum_7 lc_0 ?_
        refine Ex_lcmp d_rm_sum_8 ?_
        refine Ex_if_ltLZ (-1) (0) 20 d_rm_sum_9 rfl rfl (by decide) (by omega) (by omega) (fun hc9 => ?_) (fun hc9 => ?_)
        · refine Ex_ldc2_w pi_rm_255 d_rm_sum_20 ?_
          refine Ex_goto 29 d_rm_sum_23 rfl ?_
          refine Ex_lreturn d_rm_sum_29 rfl ?_
          exact ⟨by rw [lM_b (show ¬ a + b < 9223372036854775808 by omega)]; exact congrArg (fun z => some (Value.long z)) (by decide), rfl⟩
        · exfalso; omega
  · rw [lM_b ha]
    by_cases hb : b < 9223372036854775808
    · rw [lM_s hb]
      show Ex S rm_sum 0 [some (.long (JL (-1))), none, some (.long (JL ((b : Int)))), none] [] h _
      refine Ex_lload_n d_rm_sum_0 rfl ?_
      refine Ex_lconst d_rm_sum_1 lc_0 ?_
      refine Ex_lcmp d_rm_sum_2 ?_
      refine Ex_if_ltLZ (-1) (0) 20 d_rm_sum_3 rfl rfl (by decide) (by omega) (by omega) (fun hc3 => ?_) (fun hc3 => ?_)
      · refine Ex_ldc2_w pi_rm_255 d_rm_sum_20 ?_
        refine Ex_goto 29 d_rm_sum_23 rfl ?_
        refine Ex_lreturn d_rm_sum_29 rfl ?_
        exact ⟨by rw [lM_b (show ¬ a + b < 9223372036854775808 by omega)]; exact congrArg (fun z => some (Value.long z)) (by decide), rfl⟩
      · exfalso; omega
    · rw [lM_b hb]
      show Ex S rm_sum 0 [some (.long (JL (-1))), none, some (.long (JL (-1))), none] [] h _
      refine Ex_lload_n d_rm_sum_0 rfl ?_
      refine Ex_lconst d_rm_sum_1 lc_0 ?_
      refine Ex_lcmp d_rm_sum_2 ?_
      refine Ex_if_ltLZ (-1) (0) 20 d_rm_sum_3 rfl rfl (by decide) (by omega) (by omega) (fun hc3 => ?_) (fun hc3 => ?_)
      · refine Ex_ldc2_w pi_rm_255 d_rm_sum_20 ?_
        refine Ex_goto 29 d_rm_sum_23 rfl ?_
        refine Ex_lreturn d_rm_sum_29 rfl ?_
        exact ⟨by rw [lM_b (show ¬ a + b < 9223372036854775808 by omega)]; exact congrArg (fun z => some (Value.long z)) (by decide), rfl⟩
      · exfalso; omega
theorem ru_sum_s {S : mj_S} {h : mj_H} {a b : Nat} : Cl S ru_sum [.long (lC a), .long (lC b)] h (Pu (.long (lC (a + b))) h) := by
  by_cases ha : a < 9223372036854775808
  · by_cases hb : b < 9223372036854775808
    · rw [lC_s ha, lC_s hb]
      by_cases hab : a + b < 9223372036854775808
      · show Ex S ru_sum 0 [some (.long (JL ((a : Int)))), none, some (.long (JL ((b : Int)))), none] [] h _
        refine Ex_lload_n d_ru_sum_0 rfl ?_
        refine Ex_ldc2_w pi_ru_87 d_ru_sum_1 ?_
        refine Ex_lcmp d_ru_sum_4 ?_
        refine Ex_if_eqLZ ((a : Int)) ((-2)) 26 d_ru_sum_5 rfl rfl (by decide) (by omega) (by omega) (fun hc5 => ?_) (fun hc5 => ?_)
        · exfalso; omega
        · refine Ex_lload_n d_ru_sum_8 rfl ?_
          refine Ex_ldc2_w pi_ru_87 d_ru_sum_9 ?_
          refine Ex_lcmp d_ru_sum_12 ?_
          refine Ex_if_eqLZ ((b : Int)) ((-2)) 26 d_ru_sum_13 rfl rfl (by decide) (by omega) (by omega) (fun hc13 => ?_) (fun hc13 => ?_)
          · exfalso; omega
          · refine Ex_lload_n d_ru_sum_16 rfl ?_
            refine Ex_ldc2_w pi_ru_91 d_ru_sum_17 ?_
            refine Ex_lload_n d_ru_sum_20 rfl ?_
            refine Ex_lsubZ ((9223372036854775807)) ((b : Int)) d_ru_sum_21 (by decide) rfl ?_
            refine Ex_lcmp d_ru_sum_22 ?_
            refine Ex_if_leLZ ((a : Int)) (((9223372036854775807)) - ((b : Int))) 32 d_ru_sum_23 rfl rfl rfl (by omega) (by omega) (fun hc23 => ?_) (fun hc23 => ?_)
            · refine Ex_lload_n d_ru_sum_32 rfl ?_
              refine Ex_lload_n d_ru_sum_33 rfl ?_
              refine Ex_laddZ ((a : Int)) ((b : Int)) d_ru_sum_34 rfl rfl ?_
              refine Ex_lreturn d_ru_sum_35 rfl ?_
              exact ⟨by rw [lC_s (show a + b < 9223372036854775808 by omega)]; exact congrArg (fun z => some (Value.long (JL z))) (by omega), rfl⟩
            · exfalso; omega
      · show Ex S ru_sum 0 [some (.long (JL ((a : Int)))), none, some (.long (JL ((b : Int)))), none] [] h _
        refine Ex_lload_n d_ru_sum_0 rfl ?_
        refine Ex_ldc2_w pi_ru_87 d_ru_sum_1 ?_
        refine Ex_lcmp d_ru_sum_4 ?_
        refine Ex_if_eqLZ ((a : Int)) ((-2)) 26 d_ru_sum_5 rfl rfl (by decide) (by omega) (by omega) (fun hc5 => ?_) (fun hc5 => ?_)
        · exfalso; omega
        · refine Ex_lload_n d_ru_sum_8 rfl ?_
          refine Ex_ldc2_w pi_ru_87 d_ru_sum_9 ?_
          refine Ex_lcmp d_ru_sum_12 ?_
          refine Ex_if_eqLZ ((b : Int)) ((-2)) 26 d_ru_sum_13 rfl rfl (by decide) (by omega) (by omega) (fun hc13 => ?_) (fun hc13 => ?_)
          · exfalso; omega
          · refine Ex_lload_n d_ru_sum_16 rfl ?_
            refine Ex_ldc2_w pi_ru_91 d_ru_sum_17 ?_
            refine Ex_lload_n d_ru_sum_20 rfl ?_
            refine Ex_lsubZ ((9223372036854775807)) ((b : Int)) d_ru_sum_21 (by decide) rfl ?_
            refine Ex_lcmp d_ru_sum_22 ?_
            refine Ex_if_leLZ ((a : Int)) (((9223372036854775807)) - ((b : Int))) 32 d_ru_sum_23 rfl rfl rfl (by omega) (by omega) (fun hc23 => ?_) (fun hc23 => ?_)
            · exfalso; omega
            · refine Ex_ldc2_w pi_ru_87 d_ru_sum_26 ?_
              refine Ex_goto 35 d_ru_sum_29 rfl ?_
              refine Ex_lreturn d_ru_sum_35 rfl ?_
              exact ⟨by rw [lC_b (show ¬ a + b < 9223372036854775808 by omega)]; exact congrArg (fun z => some (Value.long z)) (by decide), rfl⟩
    · rw [lC_s ha, lC_b hb]
      show Ex S ru_sum 0 [some (.long (JL ((a : Int)))), none, some (.long (JL (-2))), none] [] h _
      refine Ex_lload_n d_ru_sum_0 rfl ?_
      refine Ex_ldc2_w pi_ru_87 d_ru_sum_1 ?_
      refine Ex_lcmp d_ru_sum_4 ?_
      refine Ex_if_eqLZ ((a : Int)) ((-2)) 26 d_ru_sum_5 rfl rfl (by decide) (by omega) (by omega) (fun hc5 => ?_) (fun hc5 => ?_)
      · exfalso; omega
      · refine Ex_lload_n d_ru_sum_8 rfl ?_
        refine Ex_ldc2_w pi_ru_87 d_ru_sum_9 ?_
        refine Ex_lcmp d_ru_sum_12 ?_
        refine Ex_if_eqLZ (-2) ((-2)) 26 d_ru_sum_13 rfl rfl (by decide) (by omega) (by omega) (fun hc13 => ?_) (fun hc13 => ?_)
        · refine Ex_ldc2_w pi_ru_87 d_ru_sum_26 ?_
          refine Ex_goto 35 d_ru_sum_29 rfl ?_
          refine Ex_lreturn d_ru_sum_35 rfl ?_
          exact ⟨by rw [lC_b (show ¬ a + b < 9223372036854775808 by omega)]; exact congrArg (fun z => some (Value.long z)) (by decide), rfl⟩
        · exfalso; omega
  · rw [lC_b ha]
    by_cases hb : b < 9223372036854775808
    · rw [lC_s hb]
      show Ex S ru_sum 0 [some (.long (JL (-2))), none, some (.long (JL ((b : Int)))), none] [] h _
      refine Ex_lload_n d_ru_sum_0 rfl ?_
      refine Ex_ldc2_w pi_ru_87 d_ru_sum_1 ?_
      refine Ex_lcmp d_ru_sum_4 ?_
      refine Ex_if_eqLZ (-2) ((-2)) 26 d_ru_sum_5 rfl rfl (by decide) (by omega) (by omega) (fun hc5 => ?_) (fun hc5 => ?_)
      · refine Ex_ldc2_w pi_ru_87 d_ru_sum_26 ?_
        refine Ex_goto 35 d_ru_sum_29 rfl ?_
        refine Ex_lreturn d_ru_sum_35 rfl ?_
        exact ⟨by rw [lC_b (show ¬ a + b < 9223372036854775808 by omega)]; exact congrArg (fun z => some (Value.long z)) (by decide), rfl⟩
      · exfalso; omega
    · rw [lC_b hb]
      show Ex S ru_sum 0 [some (.long (JL (-2))), none, some (.long (JL (-2))), none] [] h _
      refine Ex_lload_n d_ru_sum_0 rfl ?_
      refine Ex_ldc2_w pi_ru_87 d_ru_sum_1 ?_
      refine Ex_lcmp d_ru_sum_4 ?_
      refine Ex_if_eqLZ (-2) ((-2)) 26 d_ru_sum_5 rfl rfl (by decide) (by omega) (by omega) (fun hc5 => ?_) (fun hc5 => ?_)
      · refine Ex_ldc2_w pi_ru_87 d_ru_sum_26 ?_
        refine Ex_goto 35 d_ru_sum_29 rfl ?_
        refine Ex_lreturn d_ru_sum_35 rfl ?_
        exact ⟨by rw [lC_b (show ¬ a + b < 9223372036854775808 by omega)]; exact congrArg (fun z => some (Value.long z)) (by decide), rfl⟩
      · exfalso; omega
theorem rm_ft_L0 {S : mj_S} {Q : Option Value → mj_H → Prop} {h : mj_H} (hs : HT h) {K : SK} (hK : KM K h) (hO : KO K) {R : SR} (hR : RM R h) (hRO : RO K.1 R) {r : Nat} (hr : r < R.1) {a s b : Nat} (ha : a < K.1) (hb : b < K.1) (hsm : s ≤ 60)
    (kx : ∀ h1 : mj_H, (Fr (fun a _ => a = 62 ∨ a = 63) h h1 ∧ ∀ x, x < K.1 → mL h1 62 x = lM (ftN K.1 (rB R r) a 0 x)) → Ex S rm_foretold 75 [some (.ref 38), some (.int (nI (r))), some (.int (nI (a))), some (.int (nI (s))), some (.int (nI (b))), some (.int (nI (K.1))), none, none, none] [] h1 Q) : ∀ d k : Nat, k + d = K.1 → ∀ h1 : mj_H, (Fr (fun a _ => a = 62 ∨ a = 63) h h1 ∧ ∀ x, x < k → mL h1 62 x = lM (ftN K.1 (rB R r) a 0 x)) → Ex S rm_foretold 42 [some (.ref 38), some (.int (nI (r))), some (.int (nI (a))), some (.int (nI (s))), some (.int (nI (b))), some (.int (nI (k))), none, none, none] [] h1 Q := by
  have hk40 := hO.1
  intro d
  induction d with
  | zero =>
    intro k hkk h1 hI
    obtain rfl : K.1 = k := by omega
    have f1 := hI.1
    have hs1 : HT h1 := f1.ht hs (by decide)
    have hK1 : KM K h1 := KM_fr hs f1 (by intro a k; unfold WKM; omega) hK
    refine Ex_iload d_rm_foretold_42 rfl ?_
    refine Ex_aload_n d_rm_foretold_44 rfl ?_
    refine Ex_getIE d_rm_foretold_45 pf_rm_128 rfl (t_38 hs1) hK1.1 ?_
    refine Ex_icmp_geN (K.1) (K.1) 75 d_rm_foretold_48 rfl rfl rfl (by omega) (by omega) (fun hc48 => ?_) (fun hc48 => ?_)
    · exact kx h1 hI
    · exfalso; omega
  | succ d ih =>
    intro k hkk h1 hI
    have f1 := hI.1
    have hs1 : HT h1 := f1.ht hs (by decide)
    have hK1 : KM K h1 := KM_fr hs f1 (by intro a k; unfold WKM; omega) hK
    refine Ex_iload d_rm_foretold_42 rfl ?_
    refine Ex_aload_n d_rm_foretold_44 rfl ?_
    refine Ex_getIE d_rm_foretold_45 pf_rm_128 rfl (t_38 hs1) hK1.1 ?_
    refine Ex_icmp_geN (k) (K.1) 75 d_rm_foretold_48 rfl rfl rfl (by omega) (by omega) (fun hc48 => ?_) (fun hc48 => ?_)
    · exfalso; omega
    · refine Ex_aload_n d_rm_foretold_51 rfl ?_
      refine Ex_getR (v := .ref 62) d_rm_foretold_52 pf_rm_82 rfl (t_38 hs1) (r_38_33 hs1) ?_
      refine Ex_iload d_rm_foretold_55 rfl ?_
      refine Ex_iload d_rm_foretold_57 rfl ?_
      refine Ex_iload_n d_rm_foretold_59 rfl ?_
      refine Ex_icmp_neN (k) (a) 67 d_rm_foretold_60 rfl rfl rfl (by omega) (by omega) (fun hc60 => ?_) (fun hc60 => ?_)
      · refine Ex_lconst d_rm_foretold_67 lc_0 ?_
        refine Ex_lastoreN (a := k) d_rm_foretold_68 (t_62 hs1) rfl (by omega) (by decide) ?_
        refine Ex_iincN (k) 1 [some (.ref 38), some (.int (nI (r))), some (.int (nI (a))), some (.int (nI (s))), some (.int (nI (b))), some (.int (nI (k + 1))), none, none, none] d_rm_foretold_69 rfl rfl rfl rfl ?_
        refine Ex_goto 42 d_rm_foretold_72 rfl ?_
        refine ih (k + 1) (by omega) _ ⟨Fr.sL f1 (Or.inl rfl), fun x hx => ?_⟩
        by_cases hxk : x = k
        · subst hxk
          rw [mL_self]
          show _ = lM (if x = a then 1 else 0)
          first | (rw [if_pos (by omega), lM_s (by omega)]; decide) | (rw [if_neg (by omega), lM_s (by omega)]; decide)
        · rw [mL_oth (Or.inr hxk)]
          exact hI.2 x (by omega)
      · refine Ex_lconst d_rm_foretold_63 lc_1 ?_
        refine Ex_goto 68 d_rm_foretold_64 rfl ?_
        refine Ex_lastoreN (a := k) d_rm_foretold_68 (t_62 hs1) rfl (by omega) (by decide) ?_
        refine Ex_iincN (k) 1 [some (.ref 38), some (.int (nI (r))), some (.int (nI (a))), some (.int (nI (s))), some (.int (nI (b))), some (.int (nI (k + 1))), none, none, none] d_rm_foretold_69 rfl rfl rfl rfl ?_
        refine Ex_goto 42 d_rm_foretold_72 rfl ?_
        refine ih (k + 1) (by omega) _ ⟨Fr.sL f1 (Or.inl rfl), fun x hx => ?_⟩
        by_cases hxk : x = k
        · subst hxk
          rw [mL_self]
          show _ = lM (if x = a then 1 else 0)
          first | (rw [if_pos (by omega), lM_s (by omega)]; decide) | (rw [if_neg (by omega), lM_s (by omega)]; decide)
        · rw [mL_oth (Or.inr hxk)]
          exact hI.2 x (by omega)
theorem rm_ft_L1 {S : mj_S} {Q : Option Value → mj_H → Prop} {h : mj_H} (hs : HT h) {K : SK} (hK : KM K h) (hO : KO K) {R : SR} (hR : RM R h) (hRO : RO K.1 R) {r : Nat} (hr : r < R.1) {a s b : Nat} (ha : a < K.1) (hb : b < K.1) (hsm : s ≤ 60) {v : Nat → Nat} {q : Nat} (hq : q < s)
    (kx : ∀ h1 : mj_H, (Fr (fun a _ => a = 62 ∨ a = 63) h h1 ∧ (∀ x, x < K.1 → mL h1 62 x = lM (v x)) ∧ ∀ x, x < K.1 → mL h1 63 x = lM 0) → Ex S rm_foretold 110 [some (.ref 38), some (.int (nI (r))), some (.int (nI (a))), some (.int (nI (s))), some (.int (nI (b))), some (.int (nI (q))), some (.int (nI (K.1))), none, none] [] h1 Q) : ∀ d k : Nat, k + d = K.1 → ∀ h1 : mj_H, (Fr (fun a _ => a = 62 ∨ a = 63) h h1 ∧ (∀ x, x < K.1 → mL h1 62 x = lM (v x)) ∧ ∀ x, x < k → mL h1 63 x = lM 0) → Ex S rm_foretold 87 [some (.ref 38), some (.int (nI (r))), some (.int (nI (a))), some (.int (nI (s))), some (.int (nI (b))), some (.int (nI (q))), some (.int (nI (k))), none, none] [] h1 Q := by
  have hk40 := hO.1
  intro d
  induction d with
  | zero =>
    intro k hkk h1 hI
    obtain rfl : K.1 = k := by omega
    have f1 := hI.1
    have hs1 : HT h1 := f1.ht hs (by decide)
    have hK1 : KM K h1 := KM_fr hs f1 (by intro a k; unfold WKM; omega) hK
    refine Ex_iload d_rm_foretold_87 rfl ?_
    refine Ex_aload_n d_rm_foretold_89 rfl ?_
    refine Ex_getIE d_rm_foretold_90 pf_rm_128 rfl (t_38 hs1) hK1.1 ?_
    refine Ex_icmp_geN (K.1) (K.1) 110 d_rm_foretold_93 rfl rfl rfl (by omega) (by omega) (fun hc93 => ?_) (fun hc93 => ?_)
    · exact kx h1 hI
    · exfalso; omega
  | succ d ih =>
    intro k hkk h1 hI
    have f1 := hI.1
    have hs1 : HT h1 := f1.ht hs (by decide)
    have hK1 : KM K h1 := KM_fr hs f1 (by intro a k; unfold WKM; omega) hK
    refine Ex_iload d_rm_foretold_87 rfl ?_
    refine Ex_aload_n d_rm_foretold_89 rfl ?_
    refine Ex_getIE d_rm_foretold_90 pf_rm_128 rfl (t_38 hs1) hK1.1 ?_
    refine Ex_icmp_geN (k) (K.1) 110 d_rm_foretold_93 rfl rfl rfl (by omega) (by omega) (fun hc93 => ?_) (fun hc93 => ?_)
    · exfalso; omega
    · refine Ex_aload_n d_rm_foretold_96 rfl ?_
      refine Ex_getR (v := .ref 63) d_rm_foretold_97 pf_rm_85 rfl (t_38 hs1) (r_38_34 hs1) ?_
      refine Ex_iload d_rm_foretold_100 rfl ?_
      refine Ex_lconst d_rm_foretold_102 lc_0 ?_
      refine Ex_lastoreN (a := k) d_rm_foretold_103 (t_63 hs1) rfl (by omega) (by decide) ?_
      refine Ex_iincN (k) 1 [some (.ref 38), some (.int (nI (r))), some (.int (nI (a))), some (.int (nI (s))), some (.int (nI (b))), some (.int (nI (q))), some (.int (nI (k + 1))), none, none] d_rm_foretold_104 rfl rfl rfl rfl ?_
      refine Ex_goto 87 d_rm_foretold_107 rfl ?_
      refine ih (k + 1) (by omega) _ ⟨Fr.sL f1 (Or.inr rfl), fun x hx => by rw [mL_oth (Or.inl (by decide))]; exact hI.2.1 x hx, fun x hx => ?_⟩
      by_cases hxk : x = k
      · subst hxk
        rw [mL_self]
        decide
      · rw [mL_oth (Or.inr hxk)]
        exact hI.2.2 x (by omega)
theorem rm_ft_L3 {S : mj_S} {Q : Option Value → mj_H → Prop} {h : mj_H} (hs : HT h) {K : SK} (hK : KM K h) (hO : KO K) {R : SR} (hR : RM R h) (hRO : RO K.1 R) {r : Nat} (hr : r < R.1) {a s b : Nat} (ha : a < K.1) (hb : b < K.1) (hsm : s ≤ 60) {v : Nat → Nat} {q : Nat} (hq : q < s) {u : Nat} (hu : u < K.1)
    (kx : ∀ h1 : mj_H, (Fr (fun a _ => a = 62 ∨ a = 63) h h1 ∧ (∀ x, x < K.1 → mL h1 62 x = lM (v x)) ∧ ∀ x, x < K.1 → mL h1 63 x = lM (ftA (rB R r) v (16 * u + 16) x)) → Ex S rm_foretold 209 [some (.ref 38), some (.int (nI (r))), some (.int (nI (a))), some (.int (nI (s))), some (.int (nI (b))), some (.int (nI (q))), some (.int (nI (u))), some (.int (nI (16))), none] [] h1 Q) : ∀ d k : Nat, k + d = 16 → ∀ h1 : mj_H, (Fr (fun a _ => a = 62 ∨ a = 63) h h1 ∧ (∀ x, x < K.1 → mL h1 62 x = lM (v x)) ∧ ∀ x, x < K.1 → mL h1 63 x = lM (ftA (rB R r) v (16 * u + k) x)) → Ex S rm_foretold 140 [some (.ref 38), some (.int (nI (r))), some (.int (nI (a))), some (.int (nI (s))), some (.int (nI (b))), some (.int (nI (q))), some (.int (nI (u))), some (.int (nI (k))), none] [] h1 Q := by
  have hk40 := hO.1
  intro d
  induction d with
  | zero =>
    intro k hkk h1 hI
    obtain rfl : 16 = k := by omega
    refine Ex_iload d_rm_foretold_140 rfl ?_
    refine Ex_bipush d_rm_foretold_142 bp_16 ?_
    refine Ex_icmp_geN (16) (16) 209 d_rm_foretold_144 rfl rfl rfl (by omega) (by omega) (fun hc144 => ?_) (fun hc144 => ?_)
    · exact kx h1 hI
    · exfalso; omega
  | succ d ih =>
    intro k hkk h1 hI
    have f1 := hI.1
    have hs1 : HT h1 := f1.ht hs (by decide)
    have hK1 : KM K h1 := KM_fr hs f1 (by intro a k; unfold WKM; omega) hK
    have hR1 : RM R h1 := RM_fr hs f1 (by intro a k; unfold WRuM; omega) hR
    have hcell := (hR1.2 r hr).2.2 (16 * u + k) (by omega)
    have hok := (hRO.2 r hr).2 (16 * u + k) (by omega)
    have hr8 := hRO.1
    cases hcc : rB R r (16 * u + k) with
    | none =>
      rw [hcc] at hcell hok
      refine Ex_iload d_rm_foretold_140 rfl ?_
      refine Ex_bipush d_rm_foretold_142 bp_16 ?_
      refine Ex_icmp_geN (k) (16) 209 d_rm_foretold_144 rfl rfl rfl (by omega) (by omega) (fun hc144 => ?_) (fun hc144 => ?_)
      · exfalso; omega
      · refine Ex_aload_n d_rm_foretold_147 rfl ?_
        refine Ex_getR (v := .ref 58) d_rm_foretold_148 pf_rm_70 rfl (t_38 hs1) (r_38_28 hs1) ?_
        refine Ex_sipush d_rm_foretold_151 sp_640 ?_
        refine Ex_iload_n d_rm_foretold_154 rfl ?_
        refine Ex_imulN (640) (r) d_rm_foretold_155 rfl rfl ?_
        refine Ex_bipush d_rm_foretold_156 bp_16 ?_
        refine Ex_iload d_rm_foretold_158 rfl ?_
        refine Ex_imulN (16) (u) d_rm_foretold_160 rfl rfl ?_
        refine Ex_iaddN (640 * r) (16 * u) d_rm_foretold_161 rfl rfl ?_
        refine Ex_iload d_rm_foretold_162 rfl ?_
        refine Ex_iaddN ((640 * r) + (16 * u)) (k) d_rm_foretold_164 rfl rfl ?_
        refine Ex_ialoadN (a := ((640 * r) + (16 * u)) + k) (y := (0 : Int32)) d_rm_foretold_165 (t_58 hs1) rfl (by omega) (by decide) (by rw [Nat.add_assoc]; exact hcell) ?_
        refine Ex_istore [some (.ref 38), some (.int (nI (r))), some (.int (nI (a))), some (.int (nI (s))), some (.int (nI (b))), some (.int (nI (q))), some (.int (nI (u))), some (.int (nI (k))), some (.int (0))] d_rm_foretold_166 (Nat.le_of_ble_eq_true rfl) rfl ?_
        refine Ex_iload d_rm_foretold_168 rfl ?_
        refine Ex_if_eqN (0) 203 d_rm_foretold_170 rfl rfl (by omega) (fun hc170 => ?_) (fun hc170 => ?_)
        · refine Ex_iincN (k) 1 [some (.ref 38), some (.int (nI (r))), some (.int (nI (a))), some (.int (nI (s))), some (.int (nI (b))), some (.int (nI (q))), some (.int (nI (u))), some (.int (nI (k + 1))), some (.int (0))] d_rm_foretold_203 rfl rfl rfl rfl ?_
          refine Ex_goto 140 d_rm_foretold_206 rfl ?_
          refine Ex_forget (ls' := [some (.ref 38), some (.int (nI (r))), some (.int (nI (a))), some (.int (nI (s))), some (.int (nI (b))), some (.int (nI (q))), some (.int (nI (u))), some (.int (nI (k + 1))), none]) (sub_s (sub_s (sub_s (sub_s (sub_s (sub_s (sub_s (sub_s (sub_n sub_0))))))))) ?_
          refine ih (k + 1) (by omega) h1 ⟨hI.1, hI.2.1, fun x hx => ?_⟩
          rw [← Nat.add_assoc, ftA_n hcc]
          exact hI.2.2 x hx
        · exact absurd hc170 (by decide)
    | some q1 =>
      obtain ⟨b1, m1, s1⟩ := q1
      rw [hcc] at hcell hok
      refine Ex_iload d_rm_foretold_140 rfl ?_
      refine Ex_bipush d_rm_foretold_142 bp_16 ?_
      refine Ex_icmp_geN (k) (16) 209 d_rm_foretold_144 rfl rfl rfl (by omega) (by omega) (fun hc144 => ?_) (fun hc144 => ?_)
      · exfalso; omega
      · refine Ex_aload_n d_rm_foretold_147 rfl ?_
        refine Ex_getR (v := .ref 58) d_rm_foretold_148 pf_rm_70 rfl (t_38 hs1) (r_38_28 hs1) ?_
        refine Ex_sipush d_rm_foretold_151 sp_640 ?_
        refine Ex_iload_n d_rm_foretold_154 rfl ?_
        refine Ex_imulN (640) (r) d_rm_foretold_155 rfl rfl ?_
        refine Ex_bipush d_rm_foretold_156 bp_16 ?_
        refine Ex_iload d_rm_foretold_158 rfl ?_
        refine Ex_imulN (16) (u) d_rm_foretold_160 rfl rfl ?_
        refine Ex_iaddN (640 * r) (16 * u) d_rm_foretold_161 rfl rfl ?_
        refine Ex_iload d_rm_foretold_162 rfl ?_
        refine Ex_iaddN ((640 * r) + (16 * u)) (k) d_rm_foretold_164 rfl rfl ?_
        refine Ex_ialoadN (a := ((640 * r) + (16 * u)) + k) (y := (eM (some (b1, m1, s1)))) d_rm_foretold_165 (t_58 hs1) rfl (by omega) (by decide) (by rw [Nat.add_assoc]; exact hcell) ?_
        refine Ex_istore [some (.ref 38), some (.int (nI (r))), some (.int (nI (a))), some (.int (nI (s))), some (.int (nI (b))), some (.int (nI (q))), some (.int (nI (u))), some (.int (nI (k))), some (.int (eM (some (b1, m1, s1))))] d_rm_foretold_166 (Nat.le_of_ble_eq_true rfl) rfl ?_
        refine Ex_iload d_rm_foretold_168 rfl ?_
        refine Ex_if_eq 203 d_rm_foretold_170 rfl (fun hc170 => ?_) (fun hc170 => ?_)
        · exact absurd hc170 (eM_ne (okT_mono hok hO.1))
        · refine Ex_aload_n d_rm_foretold_173 rfl ?_
          refine Ex_getR (v := .ref 63) d_rm_foretold_174 pf_rm_85 rfl (t_38 hs1) (r_38_34 hs1) ?_
          refine Ex_iload d_rm_foretold_177 rfl ?_
          refine Ex_pS1 (v := .int (nI (b1))) d_rm_foretold_179 pk_rm_foretold_156 (rm_kindOf_s (Nat.lt_of_lt_of_le hok.1 hO.1) hok.2.1 hok.2.2) ?_
          refine Ex_aload_n d_rm_foretold_182 rfl ?_
          refine Ex_getR (v := .ref 63) d_rm_foretold_183 pf_rm_85 rfl (t_38 hs1) (r_38_34 hs1) ?_
          refine Ex_iload d_rm_foretold_186 rfl ?_
          refine Ex_pS1 (v := .int (nI (b1))) d_rm_foretold_188 pk_rm_foretold_156 (rm_kindOf_s (Nat.lt_of_lt_of_le hok.1 hO.1) hok.2.1 hok.2.2) ?_
          refine Ex_laloadN (a := b1) d_rm_foretold_191 (t_63 hs1) rfl (by (have := hok.1; omega)) (by decide) (hI.2.2 b1 hok.1) ?_
          refine Ex_aload_n d_rm_foretold_192 rfl ?_
          refine Ex_getR (v := .ref 62) d_rm_foretold_193 pf_rm_82 rfl (t_38 hs1) (r_38_33 hs1) ?_
          refine Ex_iload d_rm_foretold_196 rfl ?_
          refine Ex_laloadN (a := u) d_rm_foretold_198 (t_62 hs1) rfl (by omega) (by decide) (hI.2.1 u hu) ?_
          refine Ex_pS2 (v := .long (lM (ftA (rB R r) v (16 * u + k) b1 + v u))) d_rm_foretold_199 pk_rm_foretold_257 rm_sum_s ?_
          refine Ex_lastoreN (a := b1) d_rm_foretold_202 (t_63 hs1) rfl (by (have := hok.1; omega)) (by decide) ?_
          refine Ex_iincN (k) 1 [some (.ref 38), some (.int (nI (r))), some (.int (nI (a))), some (.int (nI (s))), some (.int (nI (b))), some (.int (nI (q))), some (.int (nI (u))), some (.int (nI (k + 1))), some (.int (eM (some (b1, m1, s1))))] d_rm_foretold_203 rfl rfl rfl rfl ?_
          refine Ex_goto 140 d_rm_foretold_206 rfl ?_
          refine Ex_forget (ls' := [some (.ref 38), some (.int (nI (r))), some (.int (nI (a))), some (.int (nI (s))), some (.int (nI (b))), some (.int (nI (q))), some (.int (nI (u))), some (.int (nI (k + 1))), none]) (sub_s (sub_s (sub_s (sub_s (sub_s (sub_s (sub_s (sub_s (sub_n sub_0))))))))) ?_
          refine ih (k + 1) (by omega) _ ⟨Fr.sL f1 (Or.inr rfl), fun x hx => by rw [mL_oth (Or.inl (by decide))]; exact hI.2.1 x hx, fun x hx => ?_⟩
          rw [← Nat.add_assoc, ftA_s hcc, show (16 * u + k) / 16 = u by omega]
          by_cases hxk : x = b1
          · subst hxk
            rw [mL_self]
            unfold va_up
            rw [if_pos rfl]
          · rw [mL_oth (Or.inr hxk)]
            unfold va_up
            rw [if_neg hxk]
            exact hI.2.2 x hx
theorem rm_ft_L2 {S : mj_S} {Q : Option Value → mj_H → Prop} {h : mj_H} (hs : HT h) {K : SK} (hK : KM K h) (hO : KO K) {R : SR} (hR : RM R h) (hRO : RO K.1 R) {r : Nat} (hr : r < R.1) {a s b : Nat} (ha : a < K.1) (hb : b < K.1) (hsm : s ≤ 60) {v : Nat → Nat} {q : Nat} (hq : q < s)
    (kx : ∀ h1 : mj_H, (Fr (fun a _ => a = 62 ∨ a = 63) h h1 ∧ (∀ x, x < K.1 → mL h1 62 x = lM (v x)) ∧ ∀ x, x < K.1 → mL h1 63 x = lM (ftA (rB R r) v (16 * K.1) x)) → Ex S rm_foretold 215 [some (.ref 38), some (.int (nI (r))), some (.int (nI (a))), some (.int (nI (s))), some (.int (nI (b))), some (.int (nI (q))), some (.int (nI (K.1))), none, none] [] h1 Q) : ∀ d k : Nat, k + d = K.1 → ∀ h1 : mj_H, (Fr (fun a _ => a = 62 ∨ a = 63) h h1 ∧ (∀ x, x < K.1 → mL h1 62 x = lM (v x)) ∧ ∀ x, x < K.1 → mL h1 63 x = lM (ftA (rB R r) v (16 * k) x)) → Ex S rm_foretold 113 [some (.ref 38), some (.int (nI (r))), some (.int (nI (a))), some (.int (nI (s))), some (.int (nI (b))), some (.int (nI (q))), some (.int (nI (k))), none, none] [] h1 Q := by
  have hk40 := hO.1
  intro d
  induction d with
  | zero =>
    intro k hkk h1 hI
    obtain rfl : K.1 = k := by omega
    have f1 := hI.1
    have hs1 : HT h1 := f1.ht hs (by decide)
    have hK1 : KM K h1 := KM_fr hs f1 (by intro a k; unfold WKM; omega) hK
    refine Ex_iload d_rm_foretold_113 rfl ?_
    refine Ex_aload_n d_rm_foretold_115 rfl ?_
    refine Ex_getIE d_rm_foretold_116 pf_rm_128 rfl (t_38 hs1) hK1.1 ?_
    refine Ex_icmp_geN (K.1) (K.1) 215 d_rm_foretold_119 rfl rfl rfl (by omega) (by omega) (fun hc119 => ?_) (fun hc119 => ?_)
    · exact kx h1 hI
    · exfalso; omega
  | succ d ih =>
    intro k hkk h1 hI
    have f1 := hI.1
    have hs1 : HT h1 := f1.ht hs (by decide)
    have hK1 : KM K h1 := KM_fr hs f1 (by intro a k; unfold WKM; omega) hK
    refine Ex_iload d_rm_foretold_113 rfl ?_
    refine Ex_aload_n d_rm_foretold_115 rfl ?_
    refine Ex_getIE d_rm_foretold_116 pf_rm_128 rfl (t_38 hs1) hK1.1 ?_
    refine Ex_icmp_geN (k) (K.1) 215 d_rm_foretold_119 rfl rfl rfl (by omega) (by omega) (fun hc119 => ?_) (fun hc119 => ?_)
    · exfalso; omega
    · refine Ex_aload_n d_rm_foretold_122 rfl ?_
      refine Ex_getR (v := .ref 62) d_rm_foretold_123 pf_rm_82 rfl (t_38 hs1) (r_38_33 hs1) ?_
      refine Ex_iload d_rm_foretold_126 rfl ?_
      refine Ex_laloadN (a := k) d_rm_foretold_128 (t_62 hs1) rfl (by omega) (by decide) (hI.2.1 k (by omega)) ?_
      refine Ex_lconst d_rm_foretold_129 lc_0 ?_
      refine Ex_lcmp d_rm_foretold_130 ?_
      refine Ex_if_neL 137 d_rm_foretold_131 rfl (fun hc131 => ?_) (fun hc131 => ?_)
      · refine Ex_iconst d_rm_foretold_137 ic_0 ?_
        refine Ex_istore [some (.ref 38), some (.int (nI (r))), some (.int (nI (a))), some (.int (nI (s))), some (.int (nI (b))), some (.int (nI (q))), some (.int (nI (k))), some (.int (0)), none] d_rm_foretold_138 (Nat.le_of_ble_eq_true rfl) rfl ?_
        refine rm_ft_L3 hs hK hO hR hRO hr ha hb hsm hq (u := k) (show k < K.1 by omega) (fun h2 hI2 => ?_) 16 0 (by omega) h1 hI
        refine Ex_iincN (k) 1 [some (.ref 38), some (.int (nI (r))), some (.int (nI (a))), some (.int (nI (s))), some (.int (nI (b))), some (.int (nI (q))), some (.int (nI (k + 1))), some (.int (nI (16))), none] d_rm_foretold_209 rfl rfl rfl rfl ?_
        refine Ex_goto 113 d_rm_foretold_212 rfl ?_
        refine Ex_forget (ls' := [some (.ref 38), some (.int (nI (r))), some (.int (nI (a))), some (.int (nI (s))), some (.int (nI (b))), some (.int (nI (q))), some (.int (nI (k + 1))), none, none]) (sub_s (sub_s (sub_s (sub_s (sub_s (sub_s (sub_s (sub_n (sub_n sub_0))))))))) ?_
        refine ih (k + 1) (by omega) h2 hI2
      · refine Ex_goto 209 d_rm_foretold_134 rfl ?_
        refine Ex_iincN (k) 1 [some (.ref 38), some (.int (nI (r))), some (.int (nI (a))), some (.int (nI (s))), some (.int (nI (b))), some (.int (nI (q))), some (.int (nI (k + 1))), none, none] d_rm_foretold_209 rfl rfl rfl rfl ?_
        refine Ex_goto 113 d_rm_foretold_212 rfl ?_
        have hv0 : v k = 0 := lM_0.mp hc131
        refine ih (k + 1) (by omega) h1 ⟨hI.1, hI.2.1, fun x hx => ?_⟩
        rw [show 16 * (k + 1) = 16 * k + 16 by omega, ft_z hv0 16 (Nat.le_refl _)]
        exact hI.2.2 x hx
theorem rm_ft_L4 {S : mj_S} {Q : Option Value → mj_H → Prop} {h : mj_H} (hs : HT h) {K : SK} (hK : KM K h) (hO : KO K) {R : SR} (hR : RM R h) (hRO : RO K.1 R) {r : Nat} (hr : r < R.1) {a s b : Nat} (ha : a < K.1) (hb : b < K.1) (hsm : s ≤ 60) {v : Nat → Nat} {q : Nat} (hq : q < s)
    (kx : ∀ h1 : mj_H, (Fr (fun a _ => a = 62 ∨ a = 63) h h1 ∧ (∀ x, x < K.1 → mL h1 63 x = lM (v x)) ∧ ∀ x, x < K.1 → mL h1 62 x = lM (v x)) → Ex S rm_foretold 247 [some (.ref 38), some (.int (nI (r))), some (.int (nI (a))), some (.int (nI (s))), some (.int (nI (b))), some (.int (nI (q))), some (.int (nI (K.1))), none, none] [] h1 Q) : ∀ d k : Nat, k + d = K.1 → ∀ h1 : mj_H, (Fr (fun a _ => a = 62 ∨ a = 63) h h1 ∧ (∀ x, x < K.1 → mL h1 63 x = lM (v x)) ∧ ∀ x, x < k → mL h1 62 x = lM (v x)) → Ex S rm_foretold 218 [some (.ref 38), some (.int (nI (r))), some (.int (nI (a))), some (.int (nI (s))), some (.int (nI (b))), some (.int (nI (q))), some (.int (nI (k))), none, none] [] h1 Q := by
  have hk40 := hO.1
  intro d
  induction d with
  | zero =>
    intro k hkk h1 hI
    obtain rfl : K.1 = k := by omega
    have f1 := hI.1
    have hs1 : HT h1 := f1.ht hs (by decide)
    have hK1 : KM K h1 := KM_fr hs f1 (by intro a k; unfold WKM; omega) hK
    refine Ex_iload d_rm_foretold_218 rfl ?_
    refine Ex_aload_n d_rm_foretold_220 rfl ?_
    refine Ex_getIE d_rm_foretold_221 pf_rm_128 rfl (t_38 hs1) hK1.1 ?_
    refine Ex_icmp_geN (K.1) (K.1) 247 d_rm_foretold_224 rfl rfl rfl (by omega) (by omega) (fun hc224 => ?_) (fun hc224 => ?_)
    · exact kx h1 hI
    · exfalso; omega
  | succ d ih =>
    intro k hkk h1 hI
    have f1 := hI.1
    have hs1 : HT h1 := f1.ht hs (by decide)
    have hK1 : KM K h1 := KM_fr hs f1 (by intro a k; unfold WKM; omega) hK
    refine Ex_iload d_rm_foretold_218 rfl ?_
    refine Ex_aload_n d_rm_foretold_220 rfl ?_
    refine Ex_getIE d_rm_foretold_221 pf_rm_128 rfl (t_38 hs1) hK1.1 ?_
    refine Ex_icmp_geN (k) (K.1) 247 d_rm_foretold_224 rfl rfl rfl (by omega) (by omega) (fun hc224 => ?_) (fun hc224 => ?_)
    · exfalso; omega
    · refine Ex_aload_n d_rm_foretold_227 rfl ?_
      refine Ex_getR (v := .ref 62) d_rm_foretold_228 pf_rm_82 rfl (t_38 hs1) (r_38_33 hs1) ?_
      refine Ex_iload d_rm_foretold_231 rfl ?_
      refine Ex_aload_n d_rm_foretold_233 rfl ?_
      refine Ex_getR (v := .ref 63) d_rm_foretold_234 pf_rm_85 rfl (t_38 hs1) (r_38_34 hs1) ?_
      refine Ex_iload d_rm_foretold_237 rfl ?_
      refine Ex_laloadN (a := k) d_rm_foretold_239 (t_63 hs1) rfl (by omega) (by decide) (hI.2.1 k (by omega)) ?_
      refine Ex_lastoreN (a := k) d_rm_foretold_240 (t_62 hs1) rfl (by omega) (by decide) ?_
      refine Ex_iincN (k) 1 [some (.ref 38), some (.int (nI (r))), some (.int (nI (a))), some (.int (nI (s))), some (.int (nI (b))), some (.int (nI (q))), some (.int (nI (k + 1))), none, none] d_rm_foretold_241 rfl rfl rfl rfl ?_
      refine Ex_goto 218 d_rm_foretold_244 rfl ?_
      refine ih (k + 1) (by omega) _ ⟨Fr.sL f1 (Or.inl rfl), fun x hx => by rw [mL_oth (Or.inl (by decide))]; exact hI.2.1 x hx, fun x hx => ?_⟩
      by_cases hxk : x = k
      · subst hxk
        rw [mL_self]
      · rw [mL_oth (Or.inr hxk)]
        exact hI.2.2 x (by omega)
theorem rm_ft_L5 {S : mj_S} {Q : Option Value → mj_H → Prop} {h : mj_H} (hs : HT h) {K : SK} (hK : KM K h) (hO : KO K) {R : SR} (hR : RM R h) (hRO : RO K.1 R) {r : Nat} (hr : r < R.1) {a s b : Nat} (ha : a < K.1) (hb : b < K.1) (hsm : s ≤ 60)
    (kx : ∀ h1 : mj_H, (Fr (fun a _ => a = 62 ∨ a = 63) h h1 ∧ ∀ x, x < K.1 → mL h1 62 x = lM (ftN K.1 (rB R r) a s x)) → Ex S rm_foretold 253 [some (.ref 38), some (.int (nI (r))), some (.int (nI (a))), some (.int (nI (s))), some (.int (nI (b))), some (.int (nI (s))), none, none, none] [] h1 Q) : ∀ d k : Nat, k + d = s → ∀ h1 : mj_H, (Fr (fun a _ => a = 62 ∨ a = 63) h h1 ∧ ∀ x, x < K.1 → mL h1 62 x = lM (ftN K.1 (rB R r) a k x)) → Ex S rm_foretold 78 [some (.ref 38), some (.int (nI (r))), some (.int (nI (a))), some (.int (nI (s))), some (.int (nI (b))), some (.int (nI (k))), none, none, none] [] h1 Q := by
  have hk40 := hO.1
  intro d
  induction d with
  | zero =>
    intro k hkk h1 hI
    obtain rfl : s = k := by omega
    refine Ex_iload d_rm_foretold_78 rfl ?_
    refine Ex_iload_n d_rm_foretold_80 rfl ?_
    refine Ex_icmp_geN (s) (s) 253 d_rm_foretold_81 rfl rfl rfl (by omega) (by omega) (fun hc81 => ?_) (fun hc81 => ?_)
    · exact kx h1 hI
    · exfalso; omega
  | succ d ih =>
    intro k hkk h1 hI
    refine Ex_iload d_rm_foretold_78 rfl ?_
    refine Ex_iload_n d_rm_foretold_80 rfl ?_
    refine Ex_icmp_geN (k) (s) 253 d_rm_foretold_81 rfl rfl rfl (by omega) (by omega) (fun hc81 => ?_) (fun hc81 => ?_)
    · exfalso; omega
    · refine Ex_iconst d_rm_foretold_84 ic_0 ?_
      refine Ex_istore [some (.ref 38), some (.int (nI (r))), some (.int (nI (a))), some (.int (nI (s))), some (.int (nI (b))), some (.int (nI (k))), some (.int (0)), none, none] d_rm_foretold_85 (Nat.le_of_ble_eq_true rfl) rfl ?_
      refine rm_ft_L1 hs hK hO hR hRO hr ha hb hsm (q := k) (by omega) (v := ftN K.1 (rB R r) a k) (fun h2 hI2 => ?_) K.1 0 (by omega) h1 ⟨hI.1, hI.2, fun x hx => absurd hx (by omega)⟩
      refine Ex_iconst d_rm_foretold_110 ic_0 ?_
      refine Ex_istore [some (.ref 38), some (.int (nI (r))), some (.int (nI (a))), some (.int (nI (s))), some (.int (nI (b))), some (.int (nI (k))), some (.int (0)), none, none] d_rm_foretold_111 (Nat.le_of_ble_eq_true rfl) rfl ?_
      refine rm_ft_L2 hs hK hO hR hRO hr ha hb hsm (q := k) (by omega) (v := ftN K.1 (rB R r) a k) (fun h3 hI3 => ?_) K.1 0 (by omega) h2 ⟨hI2.1, hI2.2.1, hI2.2.2⟩
      refine Ex_iconst d_rm_foretold_215 ic_0 ?_
      refine Ex_istore [some (.ref 38), some (.int (nI (r))), some (.int (nI (a))), some (.int (nI (s))), some (.int (nI (b))), some (.int (nI (k))), some (.int (0)), none, none] d_rm_foretold_216 (Nat.le_of_ble_eq_true rfl) rfl ?_
      refine rm_ft_L4 hs hK hO hR hRO hr ha hb hsm (q := k) (by omega) (v := ftN K.1 (rB R r) a (k + 1)) (fun h4 hI4 => ?_) K.1 0 (by omega) h3 ⟨hI3.1, hI3.2.2, fun x hx => absurd hx (by omega)⟩
      refine Ex_iincN (k) 1 [some (.ref 38), some (.int (nI (r))), some (.int (nI (a))), some (.int (nI (s))), some (.int (nI (b))), some (.int (nI (k + 1))), some (.int (nI (K.1))), none, none] d_rm_foretold_247 rfl rfl rfl rfl ?_
      refine Ex_goto 78 d_rm_foretold_250 rfl ?_
      refine Ex_forget (ls' := [some (.ref 38), some (.int (nI (r))), some (.int (nI (a))), some (.int (nI (s))), some (.int (nI (b))), some (.int (nI (k + 1))), none, none, none]) (sub_s (sub_s (sub_s (sub_s (sub_s (sub_s (sub_n (sub_n (sub_n sub_0))))))))) ?_
      exact ih (k + 1) (by omega) h4 ⟨hI4.1, hI4.2.2⟩
theorem rm_foretold_s {S : mj_S} {h : mj_H} (hs : HT h) {K : SK} (hK : KM K h) (hO : KO K) {R : SR} (hR : RM R h) (hRO : RO K.1 R) {r a w b : Int} (hr : -2147483648 ≤ r ∧ r < 2147483648) (ha : -2147483648 ≤ a ∧ a < 2147483648) (hw : -2147483648 ≤ w ∧ w < 2147483648) (hb : -2147483648 ≤ b ∧ b < 2147483648) : Cl S rm_foretold [.ref 38, .int (J (r)), .int (J (a)), .int (J (w)), .int (J (b))] h (fun rv h' => rv = some (.long (ftV K R r a w b)) ∧ Fr (fun a _ => a = 62 ∨ a = 63) h h') := by
  show Ex S rm_foretold 0 [some (.ref 38), some (.int (J (r))), some (.int (J (a))), some (.int (J (w))), some (.int (J (b))), none, none, none, none] [] h _
  have h8 := hRO.1
  have hk40 := hO.1
  refine Ex_aload_n d_rm_foretold_0 rfl ?_
  refine Ex_iload_n d_rm_foretold_1 rfl ?_
  refine Ex_pV1 (v := .int (bI (decide (0 ≤ r ∧ r < R.1)))) d_rm_foretold_2 pk_rm_foretold_241 (t_38 hs) (rm_isRule_s hs hR hRO hr) ?_
  refine Ex_if_eqB (decide (0 ≤ r ∧ r < R.1)) 35 d_rm_foretold_5 rfl rfl (fun hc5 => ?_) (fun hc5 => ?_)
  · rw [decide_eq_false_iff_not] at hc5
    refine Ex_ldc2_w pi_rm_255 d_rm_foretold_35 ?_
    refine Ex_lreturn d_rm_foretold_38 rfl ?_
    exact ⟨by unfold ftV; rw [if_neg (by unfold okFt; omega)], Fr.rf⟩
  · rw [decide_eq_true_eq] at hc5
    refine Ex_aload_n d_rm_foretold_8 rfl ?_
    refine Ex_iload_n d_rm_foretold_9 rfl ?_
    refine Ex_pV1 (v := .int (bI (decide (0 ≤ a ∧ a < K.1)))) d_rm_foretold_10 pk_rm_foretold_145 (t_38 hs) (rm_isKind_s hs hK hO ha) ?_
    refine Ex_if_eqB (decide (0 ≤ a ∧ a < K.1)) 35 d_rm_foretold_13 rfl rfl (fun hc13 => ?_) (fun hc13 => ?_)
    · rw [decide_eq_false_iff_not] at hc13
      refine Ex_ldc2_w pi_rm_255 d_rm_foretold_35 ?_
      refine Ex_lreturn d_rm_foretold_38 rfl ?_
      exact ⟨by unfold ftV; rw [if_neg (by unfold okFt; omega)], Fr.rf⟩
    · rw [decide_eq_true_eq] at hc13
      refine Ex_aload_n d_rm_foretold_16 rfl ?_
      refine Ex_iload d_rm_foretold_17 rfl ?_
      refine Ex_pV1 (v := .int (bI (decide (0 ≤ b ∧ b < K.1)))) d_rm_foretold_19 pk_rm_foretold_145 (t_38 hs) (rm_isKind_s hs hK hO hb) ?_
      refine Ex_if_eqB (decide (0 ≤ b ∧ b < K.1)) 35 d_rm_foretold_22 rfl rfl (fun hc22 => ?_) (fun hc22 => ?_)
      · rw [decide_eq_false_iff_not] at hc22
        refine Ex_ldc2_w pi_rm_255 d_rm_foretold_35 ?_
        refine Ex_lreturn d_rm_foretold_38 rfl ?_
        exact ⟨by unfold ftV; rw [if_neg (by unfold okFt; omega)], Fr.rf⟩
      · rw [decide_eq_true_eq] at hc22
        refine Ex_iload_n d_rm_foretold_25 rfl ?_
        refine Ex_if_ltZ (w) 35 d_rm_foretold_26 rfl rfl (by omega) (fun hc26 => ?_) (fun hc26 => ?_)
        · refine Ex_ldc2_w pi_rm_255 d_rm_foretold_35 ?_
          refine Ex_lreturn d_rm_foretold_38 rfl ?_
          exact ⟨by unfold ftV; rw [if_neg (by unfold okFt; omega)], Fr.rf⟩
        · refine Ex_iload_n d_rm_foretold_29 rfl ?_
          refine Ex_bipush d_rm_foretold_30 bp_60 ?_
          refine Ex_icmp_leZ (w) ((60)) 39 d_rm_foretold_32 rfl rfl (by decide) (by omega) (by omega) (fun hc32 => ?_) (fun hc32 => ?_)
          · have hF : okFt K R r a w b := by unfold okFt; omega
            have hV : ftV K R r a w b = lC (ftN K.1 (rB R r.toNat) a.toNat w.toNat b.toNat) := if_pos hF
            obtain ⟨r1, rfl⟩ : ∃ r1 : Nat, r = (r1 : Int) := ⟨r.toNat, by omega⟩
            obtain ⟨a1, rfl⟩ : ∃ a1 : Nat, a = (a1 : Int) := ⟨a.toNat, by omega⟩
            obtain ⟨s1, rfl⟩ : ∃ s1 : Nat, w = (s1 : Int) := ⟨w.toNat, by omega⟩
            obtain ⟨b1, rfl⟩ : ∃ b1 : Nat, b = (b1 : Int) := ⟨b.toNat, by omega⟩
            simp only [← nIJ]
            simp only [Int.toNat_natCast] at hV
            have ha1 : a1 < K.1 := by omega
            have hb1 : b1 < K.1 := by omega
            have hr1 : r1 < R.1 := by omega
            refine Ex_iconst d_rm_foretold_39 ic_0 ?_
            refine Ex_istore [some (.ref 38), some (.int (nI (r1))), some (.int (nI (a1))), some (.int (nI (s1))), some (.int (nI (b1))), some (.int (0)), none, none, none] d_rm_foretold_40 (Nat.le_of_ble_eq_true rfl) rfl ?_
            refine rm_ft_L0 hs hK hO hR hRO hr1 ha1 hb1 (s := s1) (by omega) (fun h1 hI => ?_) K.1 0 (by omega) h ⟨Fr.rf, fun x hx => absurd hx (by omega)⟩
            refine Ex_iconst d_rm_foretold_75 ic_0 ?_
            refine Ex_istore [some (.ref 38), some (.int (nI (r1))), some (.int (nI (a1))), some (.int (nI (s1))), some (.int (nI (b1))), some (.int (0)), none, none, none] d_rm_foretold_76 (Nat.le_of_ble_eq_true rfl) rfl ?_
            refine rm_ft_L5 hs hK hO hR hRO hr1 ha1 hb1 (by omega) (fun h2 hI2 => ?_) s1 0 (by omega) h1 ⟨hI.1, hI.2⟩
            have hs2 : HT h2 := hI2.1.ht hs (by decide)
            by_cases hx : ftN K.1 (rB R r1) a1 s1 b1 < 9223372036854775808
            · refine Ex_aload_n d_rm_foretold_253 rfl ?_
              refine Ex_getR (v := .ref 62) d_rm_foretold_254 pf_rm_82 rfl (t_38 hs2) (r_38_33 hs2) ?_
              refine Ex_iload d_rm_foretold_257 rfl ?_
              refine Ex_laloadN (a := b1) d_rm_foretold_259 (t_62 hs2) rfl (by (have := hO.1; omega)) (by decide) (by rw [hI2.2 b1 hb1, lM_s hx]) ?_
              refine Ex_lconst d_rm_foretold_260 lc_0 ?_
              refine Ex_lcmp d_rm_foretold_261 ?_
              refine Ex_if_geLZ (((ftN K.1 (rB R r1) a1 s1 b1 : Nat) : Int)) (0) 271 d_rm_foretold_262 rfl rfl (by decide) (by omega) (by omega) (fun hc262 => ?_) (fun hc262 => ?_)
              · refine Ex_aload_n d_rm_foretold_271 rfl ?_
                refine Ex_getR (v := .ref 62) d_rm_foretold_272 pf_rm_82 rfl (t_38 hs2) (r_38_33 hs2) ?_
                refine Ex_iload d_rm_foretold_275 rfl ?_
                refine Ex_laloadN (a := b1) d_rm_foretold_277 (t_62 hs2) rfl (by (have := hO.1; omega)) (by decide) (by rw [hI2.2 b1 hb1, lM_s hx]) ?_
                refine Ex_lreturn d_rm_foretold_278 rfl ?_
                refine ⟨?_, hI2.1⟩
                rw [hV, lC_s hx]
              · exfalso; omega
            · refine Ex_aload_n d_rm_foretold_253 rfl ?_
              refine Ex_getR (v := .ref 62) d_rm_foretold_254 pf_rm_82 rfl (t_38 hs2) (r_38_33 hs2) ?_
              refine Ex_iload d_rm_foretold_257 rfl ?_
              refine Ex_laloadN (a := b1) d_rm_foretold_259 (t_62 hs2) rfl (by (have := hO.1; omega)) (by decide) (by rw [hI2.2 b1 hb1, lM_b hx]) ?_
              refine Ex_lconst d_rm_foretold_260 lc_0 ?_
              refine Ex_lcmp d_rm_foretold_261 ?_
              refine Ex_if_geLZ (-1) (0) 271 d_rm_foretold_262 rfl rfl (by decide) (by omega) (by omega) (fun hc262 => ?_) (fun hc262 => ?_)
              · exfalso; omega
              · refine Ex_ldc2_w pi_rm_261 d_rm_foretold_265 ?_
                refine Ex_goto 278 d_rm_foretold_268 rfl ?_
                refine Ex_lreturn d_rm_foretold_278 rfl ?_
                refine ⟨?_, hI2.1⟩
                rw [hV, lC_b hx]
                exact congrArg (fun z => some (Value.long z)) (by decide)
          · refine Ex_ldc2_w pi_rm_255 d_rm_foretold_35 ?_
            refine Ex_lreturn d_rm_foretold_38 rfl ?_
            exact ⟨by unfold ftV; rw [if_neg (by unfold okFt; omega)], Fr.rf⟩
theorem jd_fillL_L {S : mj_S} {Q : Option Value → mj_H → Prop} {h : mj_H} {a m : Nat} {v : Int64} (ht : mT h a = some (1, m)) (hm : m ≤ 1000000)
    (kx : ∀ h1 : mj_H, (Fr (fun u _ => u = a) h h1 ∧ ∀ x, x < m → mL h1 a x = v) → Ex S jd_fillL 22 [some (.ref (a)), some (.long (v)), none, some (.int (nI (m))), some (.int (nI (m)))] [] h1 Q) : ∀ d k : Nat, k + d = m → ∀ h1 : mj_H, (Fr (fun u _ => u = a) h h1 ∧ ∀ x, x < k → mL h1 a x = v) → Ex S jd_fillL 6 [some (.ref (a)), some (.long (v)), none, some (.int (nI (k))), some (.int (nI (m)))] [] h1 Q := by
  intro d
  induction d with
  | zero =>
    intro k hkk h1 hI
    obtain rfl : m = k := by omega
    refine Ex_iload_n d_jd_fillL_6 rfl ?_
    refine Ex_iload d_jd_fillL_7 rfl ?_
    refine Ex_icmp_geN (m) (m) 22 d_jd_fillL_9 rfl rfl rfl (by omega) (by omega) (fun hc9 => ?_) (fun hc9 => ?_)
    · exact kx h1 hI
    · exfalso; omega
  | succ d ih =>
    intro k hkk h1 hI
    refine Ex_iload_n d_jd_fillL_6 rfl ?_
    refine Ex_iload d_jd_fillL_7 rfl ?_
    refine Ex_icmp_geN (k) (m) 22 d_jd_fillL_9 rfl rfl rfl (by omega) (by omega) (fun hc9 => ?_) (fun hc9 => ?_)
    · exfalso; omega
    · refine Ex_aload_n d_jd_fillL_12 rfl ?_
      refine Ex_iload_n d_jd_fillL_13 rfl ?_
      refine Ex_lload_n d_jd_fillL_14 rfl ?_
      refine Ex_lastoreN (a := k) d_jd_fillL_15 (hI.1.1.1 _ _ ht) rfl (by omega) (by omega) ?_
      refine Ex_iincN (k) 1 [some (.ref (a)), some (.long (v)), none, some (.int (nI (k + 1))), some (.int (nI (m)))] d_jd_fillL_16 rfl rfl rfl rfl ?_
      refine Ex_goto 6 d_jd_fillL_19 rfl ?_
      refine ih (k + 1) (by omega) _ ⟨Fr.sL hI.1 rfl, fun x hx => ?_⟩
      by_cases hxk : x = k
      · subst hxk
        rw [mL_self]
      · rw [mL_oth (Or.inr hxk)]
        exact hI.2 x (by omega)
theorem jd_fillL_s {S : mj_S} {h : mj_H} {a m : Nat} {v : Int64} (ht : mT h a = some (1, m)) (hm : m ≤ 1000000) : Cl S jd_fillL [.ref (a), .long (v)] h (fun r h' => r = none ∧ (Fr (fun u _ => u = a) h h' ∧ ∀ x, x < m → mL h' a x = v)) := by
  show Ex S jd_fillL 0 [some (.ref (a)), some (.long (v)), none, none, none] [] h _
  refine Ex_iconst d_jd_fillL_0 ic_0 ?_
  refine Ex_istore_n [some (.ref (a)), some (.long (v)), none, some (.int (0)), none] d_jd_fillL_1 (Nat.le_of_ble_eq_true rfl) rfl ?_
  refine Ex_aload_n d_jd_fillL_2 rfl ?_
  refine Ex_arraylength d_jd_fillL_3 ht (by decide) ?_
  refine Ex_istore [some (.ref (a)), some (.long (v)), none, some (.int (0)), some (.int (nI (m)))] d_jd_fillL_4 (Nat.le_of_ble_eq_true rfl) rfl ?_
  refine jd_fillL_L ht hm (fun h1 hI => ?_) m 0 (by omega) h ⟨Fr.rf, fun x hx => absurd hx (by omega)⟩
  refine Ex_return d_jd_fillL_22 rfl ?_
  exact ⟨rfl, hI⟩
theorem ru_fs_L1 {S : mj_S} {Q : Option Value → mj_H → Prop} {h : mj_H} {n : Nat} (hn : n ≤ 40) {c : Nat → Tl} (hc : ∀ t, t < 640 → okT n (c t)) {a b A B : Nat} (ta : mT h a = some (18, 5)) (ra : mR h a 2 = some b) (tb : mT h b = some (0, 640)) (cb : ∀ k, k < 640 → mI h b k = eC (c k)) (tA : mT h A = some (1, 40)) (tB : mT h B = some (1, 40)) (hAB : A ≠ B) (haB : a ≠ B) (hbB : b ≠ B) {v : Nat → Nat} (vA : ∀ x, x < 40 → mL h A x = lC (v x)) {u : Nat} (hu : u < 40) (hv : ¬ v u = 0)
    (kx : ∀ h1 : mj_H, (Fr (fun u _ => u = B) h h1 ∧ ∀ x, x < 40 → mL h1 B x = lC (ftA c v (16 * u + 16) x)) → Ex S ru_foretellStep 80 [some (.ref (a)), some (.ref (A)), some (.ref (B)), some (.int (nI (u))), some (.int (nI (16))), none] [] h1 Q) : ∀ d k : Nat, k + d = 16 → ∀ h1 : mj_H, (Fr (fun u _ => u = B) h h1 ∧ ∀ x, x < 40 → mL h1 B x = lC (ftA c v (16 * u + k) x)) → Ex S ru_foretellStep 16 [some (.ref (a)), some (.ref (A)), some (.ref (B)), some (.int (nI (u))), some (.int (nI (k))), none] [] h1 Q := by
  intro d
  induction d with
  | zero =>
    intro k hkk h1 hI
    obtain rfl : 16 = k := by omega
    refine Ex_iload d_ru_foretellStep_16 rfl ?_
    refine Ex_bipush d_ru_foretellStep_18 bp_16 ?_
    refine Ex_icmp_geN (16) (16) 80 d_ru_foretellStep_20 rfl rfl rfl (by omega) (by omega) (fun hc20 => ?_) (fun hc20 => ?_)
    · exact kx h1 hI
    · exfalso; omega
  | succ d ih =>
    intro k hkk h1 hI
    have f1 := hI.1
    have hvA : mL h1 A u = lC (v u) := by rw [f1.L (mT_lt tA) hAB]; exact vA u hu
    have hcell : mI h1 b (u * 16 + k) = eC (c (16 * u + k)) := by rw [f1.I (mT_lt tb) hbB, Nat.mul_comm]; exact cb _ (by omega)
    have hok := hc (16 * u + k) (by omega)
    cases hcc : c (16 * u + k) with
    | none =>
      rw [hcc] at hcell hok
      refine Ex_iload d_ru_foretellStep_16 rfl ?_
      refine Ex_bipush d_ru_foretellStep_18 bp_16 ?_
      refine Ex_icmp_geN (k) (16) 80 d_ru_foretellStep_20 rfl rfl rfl (by omega) (by omega) (fun hc20 => ?_) (fun hc20 => ?_)
      · exfalso; omega
      · refine Ex_aload_n d_ru_foretellStep_23 rfl ?_
        refine Ex_iload_n d_ru_foretellStep_24 rfl ?_
        refine Ex_laloadN (a := u) d_ru_foretellStep_25 (f1.1.1 _ _ tA) rfl (by omega) (by decide) hvA ?_
        refine Ex_lconst d_ru_foretellStep_26 lc_0 ?_
        refine Ex_lcmp d_ru_foretellStep_27 ?_
        refine Ex_if_eqL 80 d_ru_foretellStep_28 rfl (fun hc28 => ?_) (fun hc28 => ?_)
        · exact absurd (lC_0.mp hc28) hv
        · refine Ex_aload_n d_ru_foretellStep_31 rfl ?_
          refine Ex_getR (v := .ref (b)) d_ru_foretellStep_32 pf_ru_13 rfl (f1.1.1 _ _ ta) (by rw [f1.R (mT_lt ta) haB]; exact congrArg va_rf ra) ?_
          refine Ex_iload_n d_ru_foretellStep_35 rfl ?_
          refine Ex_bipush d_ru_foretellStep_36 bp_16 ?_
          refine Ex_imulN (u) (16) d_ru_foretellStep_38 rfl rfl ?_
          refine Ex_iload d_ru_foretellStep_39 rfl ?_
          refine Ex_iaddN (u * 16) (k) d_ru_foretellStep_41 rfl rfl ?_
          refine Ex_ialoadN (a := (u * 16) + k) d_ru_foretellStep_42 (f1.1.1 _ _ tb) rfl (by omega) (by decide) hcell ?_
          refine Ex_pS1 (v := .int (-1)) d_ru_foretellStep_43 pk_ru_foretellStep_58 (ce_kindOf_n (by decide)) ?_
          refine Ex_istore [some (.ref (a)), some (.ref (A)), some (.ref (B)), some (.int (nI (u))), some (.int (nI (k))), some (.int (-1))] d_ru_foretellStep_46 (Nat.le_of_ble_eq_true rfl) rfl ?_
          refine Ex_iload d_ru_foretellStep_48 rfl ?_
          refine Ex_if_ltZ ((-1)) 74 d_ru_foretellStep_50 rfl (by decide) (by omega) (fun hc50 => ?_) (fun hc50 => ?_)
          · refine Ex_iincN (k) 1 [some (.ref (a)), some (.ref (A)), some (.ref (B)), some (.int (nI (u))), some (.int (nI (k + 1))), some (.int (-1))] d_ru_foretellStep_74 rfl rfl rfl rfl ?_
            refine Ex_goto 16 d_ru_foretellStep_77 rfl ?_
            refine Ex_forget (ls' := [some (.ref (a)), some (.ref (A)), some (.ref (B)), some (.int (nI (u))), some (.int (nI (k + 1))), none]) (sub_s (sub_s (sub_s (sub_s (sub_s (sub_n sub_0)))))) ?_
            refine ih (k + 1) (by omega) h1 ⟨hI.1, fun x hx => ?_⟩
            rw [← Nat.add_assoc, ftA_n hcc]
            exact hI.2 x hx
          · exact absurd hc50 (by decide)
    | some q1 =>
      obtain ⟨b1, m1, s1⟩ := q1
      rw [hcc] at hcell hok
      refine Ex_iload d_ru_foretellStep_16 rfl ?_
      refine Ex_bipush d_ru_foretellStep_18 bp_16 ?_
      refine Ex_icmp_geN (k) (16) 80 d_ru_foretellStep_20 rfl rfl rfl (by (have h40 := hok.1; omega)) (by (have h40 := hok.1; omega)) (fun hc20 => ?_) (fun hc20 => ?_)
      · exfalso; (have h40 := hok.1; omega)
      · refine Ex_aload_n d_ru_foretellStep_23 rfl ?_
        refine Ex_iload_n d_ru_foretellStep_24 rfl ?_
        refine Ex_laloadN (a := u) d_ru_foretellStep_25 (f1.1.1 _ _ tA) rfl (by (have h40 := hok.1; omega)) (by decide) hvA ?_
        refine Ex_lconst d_ru_foretellStep_26 lc_0 ?_
        refine Ex_lcmp d_ru_foretellStep_27 ?_
        refine Ex_if_eqL 80 d_ru_foretellStep_28 rfl (fun hc28 => ?_) (fun hc28 => ?_)
        · exact absurd (lC_0.mp hc28) hv
        · refine Ex_aload_n d_ru_foretellStep_31 rfl ?_
          refine Ex_getR (v := .ref (b)) d_ru_foretellStep_32 pf_ru_13 rfl (f1.1.1 _ _ ta) (by rw [f1.R (mT_lt ta) haB]; exact congrArg va_rf ra) ?_
          refine Ex_iload_n d_ru_foretellStep_35 rfl ?_
          refine Ex_bipush d_ru_foretellStep_36 bp_16 ?_
          refine Ex_imulN (u) (16) d_ru_foretellStep_38 rfl rfl ?_
          refine Ex_iload d_ru_foretellStep_39 rfl ?_
          refine Ex_iaddN (u * 16) (k) d_ru_foretellStep_41 rfl rfl ?_
          refine Ex_ialoadN (a := (u * 16) + k) d_ru_foretellStep_42 (f1.1.1 _ _ tb) rfl (by (have h40 := hok.1; omega)) (by decide) hcell ?_
          refine Ex_pS1 (v := .int (nI (b1))) d_ru_foretellStep_43 pk_ru_foretellStep_58 (ce_kindOf_t (Nat.lt_of_lt_of_le hok.1 hn) hok.2.1 hok.2.2) ?_
          refine Ex_istore [some (.ref (a)), some (.ref (A)), some (.ref (B)), some (.int (nI (u))), some (.int (nI (k))), some (.int (nI (b1)))] d_ru_foretellStep_46 (Nat.le_of_ble_eq_true rfl) rfl ?_
          refine Ex_iload d_ru_foretellStep_48 rfl ?_
          refine Ex_if_ltN (b1) 74 d_ru_foretellStep_50 rfl rfl (by (have h40 := hok.1; omega)) (fun hc50 => ?_) (fun hc50 => ?_)
          · exfalso; (have h40 := hok.1; omega)
          · refine Ex_iload d_ru_foretellStep_53 rfl ?_
            refine Ex_bipush d_ru_foretellStep_55 bp_40 ?_
            refine Ex_icmp_geN (b1) (40) 74 d_ru_foretellStep_57 rfl rfl rfl (by (have h40 := hok.1; omega)) (by (have h40 := hok.1; omega)) (fun hc57 => ?_) (fun hc57 => ?_)
            · exfalso; (have h40 := hok.1; omega)
            · refine Ex_aload_n d_ru_foretellStep_60 rfl ?_
              refine Ex_iload d_ru_foretellStep_61 rfl ?_
              refine Ex_aload_n d_ru_foretellStep_63 rfl ?_
              refine Ex_iload d_ru_foretellStep_64 rfl ?_
              refine Ex_laloadN (a := b1) d_ru_foretellStep_66 (f1.1.1 _ _ tB) rfl (by (have h40 := hok.1; omega)) (by decide) (hI.2 b1 (Nat.lt_of_lt_of_le hok.1 hn)) ?_
              refine Ex_aload_n d_ru_foretellStep_67 rfl ?_
              refine Ex_iload_n d_ru_foretellStep_68 rfl ?_
              refine Ex_laloadN (a := u) d_ru_foretellStep_69 (f1.1.1 _ _ tA) rfl (by (have h40 := hok.1; omega)) (by decide) hvA ?_
              refine Ex_pS2 (v := .long (lC (ftA c v (16 * u + k) b1 + v u))) d_ru_foretellStep_70 pk_ru_foretellStep_83 ru_sum_s ?_
              refine Ex_lastoreN (a := b1) d_ru_foretellStep_73 (f1.1.1 _ _ tB) rfl (by (have h40 := hok.1; omega)) (by decide) ?_
              refine Ex_iincN (k) 1 [some (.ref (a)), some (.ref (A)), some (.ref (B)), some (.int (nI (u))), some (.int (nI (k + 1))), some (.int (nI (b1)))] d_ru_foretellStep_74 rfl rfl rfl rfl ?_
              refine Ex_goto 16 d_ru_foretellStep_77 rfl ?_
              refine Ex_forget (ls' := [some (.ref (a)), some (.ref (A)), some (.ref (B)), some (.int (nI (u))), some (.int (nI (k + 1))), none]) (sub_s (sub_s (sub_s (sub_s (sub_s (sub_n sub_0)))))) ?_
              refine ih (k + 1) (by omega) _ ⟨Fr.sL f1 rfl, fun x hx => ?_⟩
              rw [← Nat.add_assoc, ftA_s hcc, show (16 * u + k) / 16 = u by omega]
              by_cases hxk : x = b1
              · subst hxk
                rw [mL_self]
                unfold va_up
                rw [if_pos rfl]
              · rw [mL_oth (Or.inr hxk)]
                unfold va_up
                rw [if_neg hxk]
                exact hI.2 x hx
theorem ru_fs_L2 {S : mj_S} {Q : Option Value → mj_H → Prop} {h : mj_H} {n : Nat} (hn : n ≤ 40) {c : Nat → Tl} (hc : ∀ t, t < 640 → okT n (c t)) {a b A B : Nat} (ta : mT h a = some (18, 5)) (ra : mR h a 2 = some b) (tb : mT h b = some (0, 640)) (cb : ∀ k, k < 640 → mI h b k = eC (c k)) (tA : mT h A = some (1, 40)) (tB : mT h B = some (1, 40)) (hAB : A ≠ B) (haB : a ≠ B) (hbB : b ≠ B) {v : Nat → Nat} (vA : ∀ x, x < 40 → mL h A x = lC (v x))
    (kx : ∀ h1 : mj_H, (Fr (fun u _ => u = B) h h1 ∧ ∀ x, x < 40 → mL h1 B x = lC (ftA c v (16 * 40) x)) → Ex S ru_foretellStep 86 [some (.ref (a)), some (.ref (A)), some (.ref (B)), some (.int (nI (40))), none, none] [] h1 Q) : ∀ d k : Nat, k + d = 40 → ∀ h1 : mj_H, (Fr (fun u _ => u = B) h h1 ∧ ∀ x, x < 40 → mL h1 B x = lC (ftA c v (16 * k) x)) → Ex S ru_foretellStep 7 [some (.ref (a)), some (.ref (A)), some (.ref (B)), some (.int (nI (k))), none, none] [] h1 Q := by
  intro d
  induction d with
  | zero =>
    intro k hkk h1 hI
    obtain rfl : 40 = k := by omega
    refine Ex_iload_n d_ru_foretellStep_7 rfl ?_
    refine Ex_bipush d_ru_foretellStep_8 bp_40 ?_
    refine Ex_icmp_geN (40) (40) 86 d_ru_foretellStep_10 rfl rfl rfl (by omega) (by omega) (fun hc10 => ?_) (fun hc10 => ?_)
    · exact kx h1 hI
    · exfalso; omega
  | succ d ih =>
    intro k hkk h1 hI
    have f1 := hI.1
    have hvA : mL h1 A k = lC (v k) := by rw [f1.L (mT_lt tA) hAB]; exact vA k (by omega)
    by_cases hv : v k = 0
    · refine Ex_iload_n d_ru_foretellStep_7 rfl ?_
      refine Ex_bipush d_ru_foretellStep_8 bp_40 ?_
      refine Ex_icmp_geN (k) (40) 86 d_ru_foretellStep_10 rfl rfl rfl (by omega) (by omega) (fun hc10 => ?_) (fun hc10 => ?_)
      · exfalso; omega
      · refine Ex_iconst d_ru_foretellStep_13 ic_0 ?_
        refine Ex_istore [some (.ref (a)), some (.ref (A)), some (.ref (B)), some (.int (nI (k))), some (.int (0)), none] d_ru_foretellStep_14 (Nat.le_of_ble_eq_true rfl) rfl ?_
        refine Ex_iload d_ru_foretellStep_16 rfl ?_
        refine Ex_bipush d_ru_foretellStep_18 bp_16 ?_
        refine Ex_icmp_geN (0) (16) 80 d_ru_foretellStep_20 rfl rfl rfl (by omega) (by omega) (fun hc20 => ?_) (fun hc20 => ?_)
        · exact absurd hc20 (by decide)
        · refine Ex_aload_n d_ru_foretellStep_23 rfl ?_
          refine Ex_iload_n d_ru_foretellStep_24 rfl ?_
          refine Ex_laloadN (a := k) d_ru_foretellStep_25 (f1.1.1 _ _ tA) rfl (by omega) (by decide) hvA ?_
          refine Ex_lconst d_ru_foretellStep_26 lc_0 ?_
          refine Ex_lcmp d_ru_foretellStep_27 ?_
          refine Ex_if_eqL 80 d_ru_foretellStep_28 rfl (fun hc28 => ?_) (fun hc28 => ?_)
          · refine Ex_iincN (k) 1 [some (.ref (a)), some (.ref (A)), some (.ref (B)), some (.int (nI (k + 1))), some (.int (0)), none] d_ru_foretellStep_80 rfl rfl rfl rfl ?_
            refine Ex_goto 7 d_ru_foretellStep_83 rfl ?_
            refine Ex_forget (ls' := [some (.ref (a)), some (.ref (A)), some (.ref (B)), some (.int (nI (k + 1))), none, none]) (sub_s (sub_s (sub_s (sub_s (sub_n (sub_n sub_0)))))) ?_
            refine ih (k + 1) (by omega) h1 ⟨hI.1, fun x hx => ?_⟩
            rw [show 16 * (k + 1) = 16 * k + 16 by omega, ft_z hv 16 (Nat.le_refl _)]
            exact hI.2 x hx
          · exact absurd (lC_0.mpr hv) hc28
    · refine Ex_iload_n d_ru_foretellStep_7 rfl ?_
      refine Ex_bipush d_ru_foretellStep_8 bp_40 ?_
      refine Ex_icmp_geN (k) (40) 86 d_ru_foretellStep_10 rfl rfl rfl (by omega) (by omega) (fun hc10 => ?_) (fun hc10 => ?_)
      · exfalso; omega
      · refine Ex_iconst d_ru_foretellStep_13 ic_0 ?_
        refine Ex_istore [some (.ref (a)), some (.ref (A)), some (.ref (B)), some (.int (nI (k))), some (.int (0)), none] d_ru_foretellStep_14 (Nat.le_of_ble_eq_true rfl) rfl ?_
        refine ru_fs_L1 hn hc ta ra tb cb tA tB hAB haB hbB vA (u := k) (by omega) hv (fun h2 hI2 => ?_) 16 0 (by omega) h1 hI
        refine Ex_iincN (k) 1 [some (.ref (a)), some (.ref (A)), some (.ref (B)), some (.int (nI (k + 1))), some (.int (nI (16))), none] d_ru_foretellStep_80 rfl rfl rfl rfl ?_
        refine Ex_goto 7 d_ru_foretellStep_83 rfl ?_
        refine Ex_forget (ls' := [some (.ref (a)), some (.ref (A)), some (.ref (B)), some (.int (nI (k + 1))), none, none]) (sub_s (sub_s (sub_s (sub_s (sub_n (sub_n sub_0)))))) ?_
        exact ih (k + 1) (by omega) h2 hI2
theorem ru_foretellStep_s {S : mj_S} {h : mj_H} {n : Nat} (hn : n ≤ 40) {c : Nat → Tl} (hc : ∀ t, t < 640 → okT n (c t)) {a b A B : Nat} (ta : mT h a = some (18, 5)) (ra : mR h a 2 = some b) (tb : mT h b = some (0, 640)) (cb : ∀ k, k < 640 → mI h b k = eC (c k)) (tA : mT h A = some (1, 40)) (tB : mT h B = some (1, 40)) (hAB : A ≠ B) (haB : a ≠ B) (hbB : b ≠ B) {v : Nat → Nat} (vA : ∀ x, x < 40 → mL h A x = lC (v x)) : Cl S ru_foretellStep [.ref (a), .ref (A), .ref (B)] h (fun r h' => r = none ∧ (Fr (fun u _ => u = B) h h' ∧ ∀ x, x < 40 → mL h' B x = lC (ftA c v (16 * 40) x))) := by
  show Ex S ru_foretellStep 0 [some (.ref (a)), some (.ref (A)), some (.ref (B)), none, none, none] [] h _
  refine Ex_aload_n d_ru_foretellStep_0 rfl ?_
  refine Ex_lconst d_ru_foretellStep_1 lc_0 ?_
  refine Ex_cS2 d_ru_foretellStep_2 pk_ru_foretellStep_76 (jd_fillL_s (m := 40) tB (by omega)) ?_
  rintro rv h1 ⟨rfl, f1, g1⟩
  show Ex S ru_foretellStep 5 [some (.ref (a)), some (.ref (A)), some (.ref (B)), none, none, none] [] h1 _
  refine Ex_iconst d_ru_foretellStep_5 ic_0 ?_
  refine Ex_istore_n [some (.ref (a)), some (.ref (A)), some (.ref (B)), some (.int (0)), none, none] d_ru_foretellStep_6 (Nat.le_of_ble_eq_true rfl) rfl ?_
  refine ru_fs_L2 hn hc ta ra tb cb tA tB hAB haB hbB vA (fun h2 hI2 => ?_) 40 0 (by omega) h1 ⟨f1, fun x hx => ?_⟩
  · refine Ex_return d_ru_foretellStep_86 rfl ?_
    exact ⟨rfl, hI2⟩
  · rw [g1 x hx]
    show (0 : Int64) = lC 0
    decide
theorem ru_foretell_L {S : mj_S} {Q : Option Value → mj_H → Prop} {h : mj_H} {K : SK} (hO : KO K) {R : SR} {Y : OW} (hRO : RO K.1 R) {r a b c d : Nat} (hr : r < R.1) (hx : RuC1 R Y h r a b c d) {x s y : Nat} (hxk : x < K.1) (hyk : y < K.1) (hs60 : s ≤ 60)
    (kx : ∀ h1 : mj_H, (Fr (fun u _ => u = c ∨ u = d) h h1 ∧ ∀ t, t < 40 → mL h1 (if s % 2 = 0 then c else d) t = lC (ftN K.1 (rB R r) x s t)) → Ex S ru_foretell 88 [some (.ref (a)), some (.int (nI (x))), some (.int (nI (s))), some (.int (nI (y))), some (.int (nI (s)))] [] h1 Q) : ∀ e k : Nat, k + e = s → ∀ h1 : mj_H, (Fr (fun u _ => u = c ∨ u = d) h h1 ∧ ∀ t, t < 40 → mL h1 (if k % 2 = 0 then c else d) t = lC (ftN K.1 (rB R r) x k t)) → Ex S ru_foretell 42 [some (.ref (a)), some (.int (nI (x))), some (.int (nI (s))), some (.int (nI (y))), some (.int (nI (k)))] [] h1 Q := by
  obtain ⟨⟨⟨a1, a2⟩, ⟨a3, a4⟩, ⟨a5, a6⟩, a7, a8⟩, ⟨b1, b2, b3, b4, b5, b6, b7, b8⟩, c1, c2, c3⟩ := id hx
  have hk40 := hO.1
  have ne1 : a ≠ c := fun z => by rw [z, a6] at a2; cases a2
  have ne2 : a ≠ d := fun z => by rw [z, a8] at a2; cases a2
  have ne3 : b ≠ c := fun z => by rw [z, a6] at a4; cases a4
  have ne4 : b ≠ d := fun z => by rw [z, a8] at a4; cases a4
  have ne5 : c ≠ d := fun z => by rw [z, a8] at a6; cases a6
  have hne : ¬ (a = c ∨ a = d) := fun z => z.elim ne1 ne2
  have hnb : ¬ (b = c ∨ b = d) := fun z => z.elim ne3 ne4
  intro e
  induction e with
  | zero =>
    intro k hkk h1 hI
    obtain rfl : s = k := by omega
    refine Ex_iload d_ru_foretell_42 rfl ?_
    refine Ex_iload_n d_ru_foretell_44 rfl ?_
    refine Ex_icmp_geN (s) (s) 88 d_ru_foretell_45 rfl rfl rfl (by omega) (by omega) (fun hc45 => ?_) (fun hc45 => ?_)
    · exact kx h1 hI
    · exfalso; omega
  | succ e ih =>
    intro k hkk h1 hI
    have f1 := hI.1
    have hN := ftN_up hk40 (hRO.2 r hr).2 hxk k
    have cb1 : ∀ t, t < 640 → mI h1 b t = eC (rB R r t) := fun t ht => by rw [f1.I (mT_lt b6) hnb]; exact c3 t ht
    have hfin := ft_e (c := rB R r) hN (40 - K.1)
    rw [show K.1 + (40 - K.1) = 40 by omega] at hfin
    rcases (show k % 2 = 0 ∨ k % 2 = 1 by omega) with hp | hp
    · have hA : ∀ t, t < 40 → mL h1 c t = lC (ftN K.1 (rB R r) x k t) := fun t ht => by have z := hI.2 t ht; rw [if_pos hp] at z; exact z
      refine Ex_iload d_ru_foretell_42 rfl ?_
      refine Ex_iload_n d_ru_foretell_44 rfl ?_
      refine Ex_icmp_geN (k) (s) 88 d_ru_foretell_45 rfl rfl rfl (by omega) (by omega) (fun hc45 => ?_) (fun hc45 => ?_)
      · exfalso; omega
      · refine Ex_iload d_ru_foretell_48 rfl ?_
        refine Ex_iconst d_ru_foretell_50 ic_2 ?_
        refine Ex_iremN (k) (2) d_ru_foretell_51 rfl rfl (by omega) (by omega) ?_
        refine Ex_if_neN (k % 2) 70 d_ru_foretell_52 rfl rfl (by omega) (fun hc52 => ?_) (fun hc52 => ?_)
        · exfalso; omega
        · refine Ex_aload_n d_ru_foretell_55 rfl ?_
          refine Ex_aload_n d_ru_foretell_56 rfl ?_
          refine Ex_getR (v := .ref (c)) d_ru_foretell_57 pf_ru_17 rfl (f1.1.1 _ _ b2) (by rw [f1.R (mT_lt b2) hne]; exact congrArg va_rf b4) ?_
          refine Ex_aload_n d_ru_foretell_60 rfl ?_
          refine Ex_getR (v := .ref (d)) d_ru_foretell_61 pf_ru_21 rfl (f1.1.1 _ _ b2) (by rw [f1.R (mT_lt b2) hne]; exact congrArg va_rf b5) ?_
          refine Ex_cV2 d_ru_foretell_64 pk_ru_foretell_79 (f1.1.1 _ _ b2) (ru_foretellStep_s hk40 (hRO.2 r hr).2 (f1.1.1 _ _ b2) (by rw [f1.R (mT_lt b2) hne]; exact b3) (f1.1.1 _ _ b6) cb1 (f1.1.1 _ _ b7) (f1.1.1 _ _ b8) ne5 ne2 ne4 (v := ftN K.1 (rB R r) x k) hA) ?_
          rintro rv h2 ⟨rfl, f2, g2⟩
          show Ex S ru_foretell 67 [some (.ref (a)), some (.int (nI (x))), some (.int (nI (s))), some (.int (nI (y))), some (.int (nI (k)))] [] h2 _
          refine Ex_goto 82 d_ru_foretell_67 rfl ?_
          refine Ex_iincN (k) 1 [some (.ref (a)), some (.int (nI (x))), some (.int (nI (s))), some (.int (nI (y))), some (.int (nI (k + 1)))] d_ru_foretell_82 rfl rfl rfl rfl ?_
          refine Ex_goto 42 d_ru_foretell_85 rfl ?_
          refine ih (k + 1) (by omega) h2 ⟨f1.tr (f2.mono (fun u k z => Or.inr z)), fun t ht => ?_⟩
          rw [if_neg (by omega), g2 t ht, hfin]
          rfl
    · have hA : ∀ t, t < 40 → mL h1 d t = lC (ftN K.1 (rB R r) x k t) := fun t ht => by have z := hI.2 t ht; rw [if_neg (by omega)] at z; exact z
      refine Ex_iload d_ru_foretell_42 rfl ?_
      refine Ex_iload_n d_ru_foretell_44 rfl ?_
      refine Ex_icmp_geN (k) (s) 88 d_ru_foretell_45 rfl rfl rfl (by omega) (by omega) (fun hc45 => ?_) (fun hc45 => ?_)
      · exfalso; omega
      · refine Ex_iload d_ru_foretell_48 rfl ?_
        refine Ex_iconst d_ru_foretell_50 ic_2 ?_
        refine Ex_iremN (k) (2) d_ru_foretell_51 rfl rfl (by omega) (by omega) ?_
        refine Ex_if_neN (k % 2) 70 d_ru_foretell_52 rfl rfl (by omega) (fun hc52 => ?_) (fun hc52 => ?_)
        · refine Ex_aload_n d_ru_foretell_70 rfl ?_
          refine Ex_aload_n d_ru_foretell_71 rfl ?_
          refine Ex_getR (v := .ref (d)) d_ru_foretell_72 pf_ru_21 rfl (f1.1.1 _ _ b2) (by rw [f1.R (mT_lt b2) hne]; exact congrArg va_rf b5) ?_
          refine Ex_aload_n d_ru_foretell_75 rfl ?_
          refine Ex_getR (v := .ref (c)) d_ru_foretell_76 pf_ru_17 rfl (f1.1.1 _ _ b2) (by rw [f1.R (mT_lt b2) hne]; exact congrArg va_rf b4) ?_
          refine Ex_cV2 d_ru_foretell_79 pk_ru_foretell_79 (f1.1.1 _ _ b2) (ru_foretellStep_s hk40 (hRO.2 r hr).2 (f1.1.1 _ _ b2) (by rw [f1.R (mT_lt b2) hne]; exact b3) (f1.1.1 _ _ b6) cb1 (f1.1.1 _ _ b8) (f1.1.1 _ _ b7) ne5.symm ne1 ne3 (v := ftN K.1 (rB R r) x k) hA) ?_
          rintro rv h2 ⟨rfl, f2, g2⟩
          show Ex S ru_foretell 82 [some (.ref (a)), some (.int (nI (x))), some (.int (nI (s))), some (.int (nI (y))), some (.int (nI (k)))] [] h2 _
          refine Ex_iincN (k) 1 [some (.ref (a)), some (.int (nI (x))), some (.int (nI (s))), some (.int (nI (y))), some (.int (nI (k + 1)))] d_ru_foretell_82 rfl rfl rfl rfl ?_
          refine Ex_goto 42 d_ru_foretell_85 rfl ?_
          refine ih (k + 1) (by omega) h2 ⟨f1.tr (f2.mono (fun u k z => Or.inl z)), fun t ht => ?_⟩
          rw [if_pos (by omega), g2 t ht, hfin]
          rfl
        · exfalso; omega
theorem ru_foretell_s {S : mj_S} {h : mj_H} {K : SK} (hO : KO K) {R : SR} {Y : OW} (hRO : RO K.1 R) {r a b c d : Nat} (hr : r < R.1) (hx : RuC1 R Y h r a b c d) {x s y : Nat} (hxk : x < K.1) (hyk : y < K.1) (hs60 : s ≤ 60) : Cl S ru_foretell [.ref (a), .int (nI (x)), .int (nI (s)), .int (nI (y))] h (fun rv h' => rv = some (.long (lC (ftN K.1 (rB R r) x s y))) ∧ Fr (fun u _ => u = c ∨ u = d) h h') := by
  show Ex S ru_foretell 0 [some (.ref (a)), some (.int (nI (x))), some (.int (nI (s))), some (.int (nI (y))), none] [] h _
  obtain ⟨⟨⟨a1, a2⟩, ⟨a3, a4⟩, ⟨a5, a6⟩, a7, a8⟩, ⟨b1, b2, b3, b4, b5, b6, b7, b8⟩, c1, c2, c3⟩ := id hx
  have hk40 := hO.1
  have ne1 : a ≠ c := fun z => by rw [z, a6] at a2; cases a2
  have ne2 : a ≠ d := fun z => by rw [z, a8] at a2; cases a2
  have ne3 : b ≠ c := fun z => by rw [z, a6] at a4; cases a4
  have ne4 : b ≠ d := fun z => by rw [z, a8] at a4; cases a4
  have ne5 : c ≠ d := fun z => by rw [z, a8] at a6; cases a6
  have hne : ¬ (a = c ∨ a = d) := fun z => z.elim ne1 ne2
  have hnb : ¬ (b = c ∨ b = d) := fun z => z.elim ne3 ne4
  refine Ex_iload_n d_ru_foretell_0 rfl ?_
  refine Ex_if_ltN (x) 20 d_ru_foretell_1 rfl rfl (by omega) (fun hc1 => ?_) (fun hc1 => ?_)
  · exfalso; omega
  · refine Ex_iload_n d_ru_foretell_4 rfl ?_
    refine Ex_bipush d_ru_foretell_5 bp_40 ?_
    refine Ex_icmp_geN (x) (40) 20 d_ru_foretell_7 rfl rfl rfl (by omega) (by omega) (fun hc7 => ?_) (fun hc7 => ?_)
    · exfalso; omega
    · refine Ex_iload_n d_ru_foretell_10 rfl ?_
      refine Ex_if_ltN (y) 20 d_ru_foretell_11 rfl rfl (by omega) (fun hc11 => ?_) (fun hc11 => ?_)
      · exfalso; omega
      · refine Ex_iload_n d_ru_foretell_14 rfl ?_
        refine Ex_bipush d_ru_foretell_15 bp_40 ?_
        refine Ex_icmp_ltN (y) (40) 24 d_ru_foretell_17 rfl rfl rfl (by omega) (by omega) (fun hc17 => ?_) (fun hc17 => ?_)
        · refine Ex_aload_n d_ru_foretell_24 rfl ?_
          refine Ex_getR (v := .ref (c)) d_ru_foretell_25 pf_ru_17 rfl b2 (congrArg va_rf b4) ?_
          refine Ex_lconst d_ru_foretell_28 lc_0 ?_
          refine Ex_cS2 d_ru_foretell_29 pk_ru_foretell_76 (jd_fillL_s (m := 40) b7 (by omega)) ?_
          rintro rv h1 ⟨rfl, f1, g1⟩
          show Ex S ru_foretell 32 [some (.ref (a)), some (.int (nI (x))), some (.int (nI (s))), some (.int (nI (y))), none] [] h1 _
          refine Ex_aload_n d_ru_foretell_32 rfl ?_
          refine Ex_getR (v := .ref (c)) d_ru_foretell_33 pf_ru_17 rfl (f1.1.1 _ _ b2) (by rw [f1.R (mT_lt b2) ne1]; exact congrArg va_rf b4) ?_
          refine Ex_iload_n d_ru_foretell_36 rfl ?_
          refine Ex_lconst d_ru_foretell_37 lc_1 ?_
          refine Ex_lastoreN (a := x) d_ru_foretell_38 (f1.1.1 _ _ b7) rfl (by omega) (by decide) ?_
          refine Ex_iconst d_ru_foretell_39 ic_0 ?_
          refine Ex_istore [some (.ref (a)), some (.int (nI (x))), some (.int (nI (s))), some (.int (nI (y))), some (.int (0))] d_ru_foretell_40 (Nat.le_of_ble_eq_true rfl) rfl ?_
          have fz : Fr (fun u _ => u = c ∨ u = d) h (wL h1 c x 1) := Fr.sL (f1.mono (fun u k z => Or.inl z)) (Or.inl rfl)
          refine ru_foretell_L hO hRO hr hx hxk hyk hs60 (fun h2 hI2 => ?_) s 0 (by omega) _ ⟨fz, fun t ht => ?_⟩
          · have f1 := hI2.1
            rcases (show s % 2 = 0 ∨ s % 2 = 1 by omega) with hp | hp
            · have hy : mL h2 c y = lC (ftN K.1 (rB R r) x s y) := by have z := hI2.2 y (by omega); rw [if_pos hp] at z; exact z
              refine Ex_iload_n d_ru_foretell_88 rfl ?_
              refine Ex_iconst d_ru_foretell_89 ic_2 ?_
              refine Ex_iremN (s) (2) d_ru_foretell_90 rfl rfl (by omega) (by omega) ?_
              refine Ex_if_neN (s % 2) 103 d_ru_foretell_91 rfl rfl (by omega) (fun hc91 => ?_) (fun hc91 => ?_)
              · exfalso; omega
              · refine Ex_aload_n d_ru_foretell_94 rfl ?_
                refine Ex_getR (v := .ref (c)) d_ru_foretell_95 pf_ru_17 rfl (f1.1.1 _ _ b2) (by rw [f1.R (mT_lt b2) hne]; exact congrArg va_rf b4) ?_
                refine Ex_iload_n d_ru_foretell_98 rfl ?_
                refine Ex_laloadN (a := y) d_ru_foretell_99 (f1.1.1 _ _ b7) rfl (by omega) (by decide) hy ?_
                refine Ex_goto 109 d_ru_foretell_100 rfl ?_
                refine Ex_lreturn d_ru_foretell_109 rfl ?_
                exact ⟨rfl, hI2.1⟩
            · have hy : mL h2 d y = lC (ftN K.1 (rB R r) x s y) := by have z := hI2.2 y (by omega); rw [if_neg (by omega)] at z; exact z
              refine Ex_iload_n d_ru_foretell_88 rfl ?_
              refine Ex_iconst d_ru_foretell_89 ic_2 ?_
              refine Ex_iremN (s) (2) d_ru_foretell_90 rfl rfl (by omega) (by omega) ?_
              refine Ex_if_neN (s % 2) 103 d_ru_foretell_91 rfl rfl (by omega) (fun hc91 => ?_) (fun hc91 => ?_)
              · refine Ex_aload_n d_ru_foretell_103 rfl ?_
                refine Ex_getR (v := .ref (d)) d_ru_foretell_104 pf_ru_21 rfl (f1.1.1 _ _ b2) (by rw [f1.R (mT_lt b2) hne]; exact congrArg va_rf b5) ?_
                refine Ex_iload_n d_ru_foretell_107 rfl ?_
                refine Ex_laloadN (a := y) d_ru_foretell_108 (f1.1.1 _ _ b8) rfl (by omega) (by decide) hy ?_
                refine Ex_lreturn d_ru_foretell_109 rfl ?_
                exact ⟨rfl, hI2.1⟩
              · exfalso; omega
          · rw [if_pos rfl]
            show _ = lC (if t = x then 1 else 0)
            by_cases htx : t = x
            · subst htx
              rw [mL_self, if_pos rfl]
              decide
            · rw [mL_oth (Or.inr htx), g1 t ht, if_neg htx]
              decide
        · exfalso; omega
def Wft (Y : OW) (u k : Nat) : Prop := 74 ≤ u ∧ ((Y u).1 = 5 ∨ (Y u).1 = 6)
theorem to_foretold_s {S : mj_S} {h : mj_H} (hs : HT h) {K : SK} (hK : KC K h) (hO : KO K) {R : SR} {Y : OW} (hR : RuC R Y h) (hRO : RO K.1 R) {r a w b : Int} (hr : -2147483648 ≤ r ∧ r < 2147483648) (ha : -2147483648 ≤ a ∧ a < 2147483648) (hw : -2147483648 ≤ w ∧ w < 2147483648) (hb : -2147483648 ≤ b ∧ b < 2147483648) : Cl S to_foretold [.ref 0, .int (J r), .int (J a), .int (J w), .int (J b)] h (fun rv h' => rv = some (.long (ftV K R r a w b)) ∧ Fr (Wft Y) h h') := by
  show Ex S to_foretold 0 [some (.ref 0), some (.int (J (r))), some (.int (J (a))), some (.int (J (w))), some (.int (J (b))), none] [] h _
  have h8 := hRO.1
  have hk40 := hO.1
  by_cases hrr : 0 ≤ r ∧ r < R.1
  · obtain ⟨x, y, z, u, hx⟩ := hR.2 r.toNat (by omega)
    refine Ex_aload_n d_to_foretold_0 rfl ?_
    refine Ex_iload_n d_to_foretold_1 rfl ?_
    refine Ex_pV1 (v := .ref (x)) d_to_foretold_2 pk_to_foretold_269 (t_0 hs) (to_ruleOf_z hs hR hRO hrr hx) ?_
    refine Ex_astore [some (.ref 0), some (.int (J (r))), some (.int (J (a))), some (.int (J (w))), some (.int (J (b))), some (.ref (x))] d_to_foretold_5 (Nat.le_of_ble_eq_true rfl) rfl ?_
    refine Ex_aload d_to_foretold_7 rfl ?_
    refine Ex_ifnull d_to_foretold_9 ?_
    refine Ex_aload_n d_to_foretold_12 rfl ?_
    refine Ex_getR (v := .ref 1) d_to_foretold_13 pf_to_20 rfl (t_0 hs) (r_0_0 hs) ?_
    refine Ex_iload_n d_to_foretold_16 rfl ?_
    refine Ex_pV1 (v := .int (bI (decide (0 ≤ a ∧ a < K.1)))) d_to_foretold_17 pk_to_foretold_110 (t_1 hs) (ki_has_s hs hK hO ha) ?_
    refine Ex_if_eqB (decide (0 ≤ a ∧ a < K.1)) 45 d_to_foretold_20 rfl rfl (fun hc20 => ?_) (fun hc20 => ?_)
    · rw [decide_eq_false_iff_not] at hc20
      refine Ex_ldc2_w pi_to_314 d_to_foretold_45 ?_
      refine Ex_lreturn d_to_foretold_48 rfl ?_
      exact ⟨by unfold ftV; rw [if_neg (by unfold okFt; omega)], Fr.rf⟩
    · rw [decide_eq_true_eq] at hc20
      refine Ex_aload_n d_to_foretold_23 rfl ?_
      refine Ex_getR (v := .ref 1) d_to_foretold_24 pf_to_20 rfl (t_0 hs) (r_0_0 hs) ?_
      refine Ex_iload d_to_foretold_27 rfl ?_
      refine Ex_pV1 (v := .int (bI (decide (0 ≤ b ∧ b < K.1)))) d_to_foretold_29 pk_to_foretold_110 (t_1 hs) (ki_has_s hs hK hO hb) ?_
      refine Ex_if_eqB (decide (0 ≤ b ∧ b < K.1)) 45 d_to_foretold_32 rfl rfl (fun hc32 => ?_) (fun hc32 => ?_)
      · rw [decide_eq_false_iff_not] at hc32
        refine Ex_ldc2_w pi_to_314 d_to_foretold_45 ?_
        refine Ex_lreturn d_to_foretold_48 rfl ?_
        exact ⟨by unfold ftV; rw [if_neg (by unfold okFt; omega)], Fr.rf⟩
      · rw [decide_eq_true_eq] at hc32
        refine Ex_iload_n d_to_foretold_35 rfl ?_
        refine Ex_if_ltZ (w) 45 d_to_foretold_36 rfl rfl (by omega) (fun hc36 => ?_) (fun hc36 => ?_)
        · refine Ex_ldc2_w pi_to_314 d_to_foretold_45 ?_
          refine Ex_lreturn d_to_foretold_48 rfl ?_
          exact ⟨by unfold ftV; rw [if_neg (by unfold okFt; omega)], Fr.rf⟩
        · refine Ex_iload_n d_to_foretold_39 rfl ?_
          refine Ex_bipush d_to_foretold_40 bp_60 ?_
          refine Ex_icmp_leZ (w) ((60)) 49 d_to_foretold_42 rfl rfl (by decide) (by omega) (by omega) (fun hc42 => ?_) (fun hc42 => ?_)
          · refine Ex_aload d_to_foretold_49 rfl ?_
            refine Ex_iload_n d_to_foretold_51 rfl ?_
            refine Ex_iload_n d_to_foretold_52 rfl ?_
            refine Ex_iload d_to_foretold_53 rfl ?_
            refine Ex_cV3 d_to_foretold_55 pk_to_foretold_316 hx.2.1.2.1 (show Cl S ru_foretell [.ref x, .int (J a), .int (J w), .int (J b)] h _ by rw [J_pos (show 0 ≤ a by omega), J_pos (show 0 ≤ w by omega), J_pos (show 0 ≤ b by omega)]; exact ru_foretell_s hO hRO (show r.toNat < R.1 by omega) hx (x := a.toNat) (s := w.toNat) (y := b.toNat) (by omega) (by omega) (by omega)) ?_
            rintro rv h1 ⟨rfl, f1⟩
            show Ex S to_foretold 58 [some (.ref 0), some (.int (J (r))), some (.int (J (a))), some (.int (J (w))), some (.int (J (b))), some (.ref (x))] [.long (lC (ftN K.1 (rB R r.toNat) a.toNat w.toNat b.toNat))] h1 _
            refine Ex_lreturn d_to_foretold_58 rfl ?_
            refine ⟨?_, f1.mono (fun u k z => ?_)⟩
            · unfold ftV
              rw [if_pos (by unfold okFt; omega)]
            · rcases z with rfl | rfl
              · exact ⟨hx.1.2.2.1.1, Or.inl (by rw [hx.1.2.2.1.2])⟩
              · exact ⟨hx.1.2.2.2.1, Or.inr (by rw [hx.1.2.2.2.2])⟩
          · refine Ex_ldc2_w pi_to_314 d_to_foretold_45 ?_
            refine Ex_lreturn d_to_foretold_48 rfl ?_
            exact ⟨by unfold ftV; rw [if_neg (by unfold okFt; omega)], Fr.rf⟩
  · refine Ex_aload_n d_to_foretold_0 rfl ?_
    refine Ex_iload_n d_to_foretold_1 rfl ?_
    refine Ex_pV1 (v := .null) d_to_foretold_2 pk_to_foretold_269 (t_0 hs) (to_ruleOf_n hs hR hRO hr hrr) ?_
    refine Ex_astore0 [some (.ref 0), some (.int (J (r))), some (.int (J (a))), some (.int (J (w))), some (.int (J (b))), some (.null)] d_to_foretold_5 (Nat.le_of_ble_eq_true rfl) rfl ?_
    refine Ex_aload0 d_to_foretold_7 rfl ?_
    refine Ex_ifnull0 45 d_to_foretold_9 rfl ?_
    refine Ex_ldc2_w pi_to_314 d_to_foretold_45 ?_
    refine Ex_lreturn d_to_foretold_48 rfl ?_
    exact ⟨by unfold ftV; rw [if_neg (by unfold okFt; omega)], Fr.rf⟩
