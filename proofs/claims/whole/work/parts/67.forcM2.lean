/-! The reference: forced. -/
theorem fr_0 {K : SK} {F : SF} {f : Nat} {L : Nat → Pl} {l : Nat → Nat} {a N : Nat} (h : (rdF K F f (sgS K F f L l) (L, l, 0) 64).2.2 = 0) : frS K F f (N + 1) L l a = ((rdF K F f (sgS K F f L l) (L, l, 0) 64).1, a) := if_pos h
theorem fr_s {K : SK} {F : SF} {f : Nat} {L : Nat → Pl} {l : Nat → Nat} {a N : Nat} (h : ¬ (rdF K F f (sgS K F f L l) (L, l, 0) 64).2.2 = 0) : frS K F f (N + 1) L l a = frS K F f N (rdF K F f (sgS K F f L l) (L, l, 0) 64).1 (rdF K F f (sgS K F f L l) (L, l, 0) 64).2.1 (a + (rdF K F f (sgS K F f L l) (L, l, 0) 64).2.2) := if_neg h
def foE (K : SK) (F : SF) (f : Nat) (q : (Nat → Pl) × Nat) (h h' : mj_H) : Prop := Fr (WSM f) h h' ∧ mI h' 38 41 = nI (fE F) ∧ ∀ k, k < 64 → mI h' 67 (64 * f + k) = eP (shL F f q.1 k)
theorem okR_0 {K : SK} {F : SF} {f : Nat} {L : Nat → Pl} {l : Nat → Nat} {c : Nat} (h : okR K F f (L, l, c)) : okR K F f (L, l, 0) := h
theorem fr_R {K : SK} {F : SF} {f : Nat} : ∀ (N : Nat) (L : Nat → Pl) (l : Nat → Nat) (a : Nat), okR K F f (L, l, 0) → okLy K.1 (frS K F f N L l a).1 ∧ ∀ k, ¬ opF F f k → (frS K F f N L l a).1 k = none
  | 0, L, l, a, h => ⟨h.1, h.2.2⟩
  | N + 1, L, l, a, h => by
    have h2 := rdF_ok (L := L) (l := l) h 64
    by_cases hz : (rdF K F f (sgS K F f L l) (L, l, 0) 64).2.2 = 0
    · rw [fr_0 hz]; exact ⟨h2.1, h2.2.2⟩
    · rw [fr_s hz]; exact fr_R N _ _ _ h2
theorem back67 {S : mj_S} {m : mj_Y} {pc : Nat} {ls ls' : List (Option Value)} {h : mj_H} {Q : Option Value → mj_H → Prop} (hl : ls = ls') (k : Ex S m pc ls' [] h Q) : Ex S m pc ls [] h Q := hl ▸ k
theorem rm_forced_N {S : mj_S} {h : mj_H} (hs : HT h) {K : SK} (hK : KM K h) (hO : KO K) {F : SF} (hFO : FO K.1 F) {f : Nat} (hf : f < F.1) (hF : FT1 F f h) {n : Nat} {o : Nat → Nat} {b : Bool} : ∀ (N : Nat) (L : Nat → Pl) (l : Nat → Nat) (q c0 : Nat) (h1 : mj_H), okR K F f (L, l, 0) → cnB (wtB F f L) 0 64 < N → q + cnB (wtB F f L) 0 64 ≤ 64 → rvM K F f n o L l h h1 → Ex S rm_forced 26 [some (.ref 38), some (.int (nI (f))), some (.int (bI (b))), some (.int (nI (q))), some (.int (nI (c0))), none, none] [] h1 (fun r h' => r = some (.int (nI (frS K F f N L l q).2)) ∧ foE K F f (frS K F f N L l q) h h') := by
  have hn := HT_n hs
  have hk40 := hO.1
  have hf6 := hFO.1
  intro N
  induction N with
  | zero => intro L l q c0 h1 hok hN; exact absurd hN (Nat.not_lt_zero _)
  | succ N ih =>
    intro L l q c0 h1 hok hN hq hR
    have hcc := rdF_c (K := K) (F := F) (f := f) (L := L) (l := l) 64 (Nat.le_refl _)
    have hok2 := rdF_ok (L := L) (l := l) hok 64
    refine Ex_iconst d_rm_forced_26 ic_0 ?_
    refine Ex_istore [some (.ref 38), some (.int (nI (f))), some (.int (bI (b))), some (.int (nI (q))), some (.int (0)), none, none] d_rm_forced_27 (Nat.le_of_ble_eq_true rfl) rfl ?_
    refine Ex_iconst d_rm_forced_29 ic_0 ?_
    refine Ex_istore [some (.ref 38), some (.int (nI (f))), some (.int (bI (b))), some (.int (nI (q))), some (.int (0)), some (.int (0)), none] d_rm_forced_30 (Nat.le_of_ble_eq_true rfl) rfl ?_
    refine rm_forced_L1 hs hK hO hFO hf hF hok (fun h2 hI2 => ?_) n 0 (by omega) h1 ⟨hR, fun i hi => absurd hi (Nat.not_lt_zero _)⟩
    refine Ex_iconst d_rm_forced_100 ic_0 ?_
    refine Ex_istore [some (.ref 38), some (.int (nI (f))), some (.int (bI (b))), some (.int (nI (q))), some (.int (0)), some (.int (0)), none] d_rm_forced_101 (Nat.le_of_ble_eq_true rfl) rfl ?_
    have z := rd_0 (K := K) (F := F) (f := f) (L := L) (l := l) (s := (L, l, 0)) hR.2.2.1.1
    refine back67 ?_ (rm_forced_L2 (S := S) (n := n) (o := o) (L := L) (l := l) hs hK hO hFO hf hF hok (q := q) (b := b) (fun h3 hI3 => ?_) n 0 (by omega) h2 (by rw [z]; exact hI2))
    · rw [z]; rfl
    have hR3 := hI3.1
    rw [show oN 64 n o n = 64 from if_neg (by omega)] at hR3 ⊢
    have hs3 : HT h3 := hR3.1.ht hs (WSM_st f)
    refine Ex_iload_n d_rm_forced_192 rfl ?_
    refine Ex_iload d_rm_forced_193 rfl ?_
    refine Ex_iaddN (q) ((rdF K F f (sgS K F f L l) (L, l, 0) 64).2.2) d_rm_forced_195 rfl rfl ?_
    refine Ex_istore_n [some (.ref 38), some (.int (nI (f))), some (.int (bI (b))), some (.int (nI (q + ((rdF K F f (sgS K F f L l) (L, l, 0) 64).2.2)))), some (.int (nI ((rdF K F f (sgS K F f L l) (L, l, 0) 64).2.2))), some (.int (nI (n))), none] d_rm_forced_196 (Nat.le_of_ble_eq_true rfl) rfl ?_
    refine Ex_goto 21 d_rm_forced_197 rfl ?_
    refine Ex_iload d_rm_forced_21 rfl ?_
    refine Ex_if_leN ((rdF K F f (sgS K F f L l) (L, l, 0) 64).2.2) 200 d_rm_forced_23 rfl rfl (by omega) (fun hc23 => ?_) (fun hc23 => ?_)
    · have hz : (rdF K F f (sgS K F f L l) (L, l, 0) 64).2.2 = 0 := by omega
      rw [fr_0 hz]
      refine Ex_aload_n d_rm_forced_200 rfl ?_
      refine Ex_cV0 d_rm_forced_201 pk_rm_forced_338 (t_38 hs3) (rm_show_s hs3 (KM_sr hs hR3.1 hK) hO hFO hf (FT1_sr hs hR3.1 hF) hR3.2.1 hR3.2.2.1) ?_
      rintro rv h4 ⟨rfl, c4⟩
      show Ex S rm_forced 204 [some (.ref 38), some (.int (nI (f))), some (.int (bI (b))), some (.int (nI (q + ((rdF K F f (sgS K F f L l) (L, l, 0) 64).2.2)))), some (.int (nI ((rdF K F f (sgS K F f L l) (L, l, 0) 64).2.2))), some (.int (nI (n))), none] [] h4 _
      refine Ex_iload_n d_rm_forced_204 rfl ?_
      refine Ex_ireturn d_rm_forced_205 rfl ?_
      refine ⟨by rw [hz]; rfl, hR3.1.tr (c4.1.mono Wsh_sr), ?_, fun k hk => ?_⟩
      · rw [c4.1.I (by have := hR3.1.le; omega) (by unfold Wsh; omega)]; exact hR3.2.2.2.2
      · rw [c4.2 k hk, hR3.2.2.2.1 k hk]
        show _ = eP (if opF F f k then (rdF K F f (sgS K F f L l) (L, l, 0) 64).1 k else none)
        by_cases z : opF F f k
        · rw [if_pos ⟨hk, z⟩, if_pos z]
        · rw [if_neg (fun w => z w.2), if_neg z]; rfl
    · have hz : ¬ (rdF K F f (sgS K F f L l) (L, l, 0) 64).2.2 = 0 := by omega
      rw [fr_s hz]
      refine Ex_forget (ls' := [some (.ref 38), some (.int (nI (f))), some (.int (bI (b))), some (.int (nI (q + ((rdF K F f (sgS K F f L l) (L, l, 0) 64).2.2)))), some (.int (nI ((rdF K F f (sgS K F f L l) (L, l, 0) 64).2.2))), none, none]) (sub_s (sub_s (sub_s (sub_s (sub_s (sub_n (sub_n sub_0))))))) ?_
      exact ih _ _ _ _ h3 hok2 (by omega) (by omega) hR3
def foS (K : SK) (F : SF) (f : Nat) : (Nat → Pl) × Nat := frS K F f 65 (fun _ => none) (fS F f) 0
theorem rm_forced_s {S : mj_S} {h : mj_H} (hs : HT h) {K : SK} (hK : KM K h) (hO : KO K) {F : SF} (hF : FM F h) (hFO : FO K.1 F) (hZ : FZ F) {z : Int} (hz : -2147483648 ≤ z ∧ z < 2147483648) : Cl S rm_forced [.ref 38, .int (J (z))] h (AnsR (0 ≤ z ∧ z < F.1) ((foS K F z.toNat).2 : Int) (FM (setF F z.toNat (shL F z.toNat (foS K F z.toNat).1) (fE F))) WSA h) := by
  show Ex S rm_forced 0 [some (.ref 38), some (.int (J (z))), none, none, none, none, none] [] h _
  refine Ex_aload_n d_rm_forced_0 rfl ?_
  refine Ex_iload_n d_rm_forced_1 rfl ?_
  refine Ex_pV1 (v := .int (bI (decide (0 ≤ z ∧ z < F.1)))) d_rm_forced_2 pk_rm_forced_288 (t_38 hs) (rm_isFloor_s hs hF hFO hz) ?_
  refine Ex_if_neB (decide (0 ≤ z ∧ z < F.1)) 10 d_rm_forced_5 rfl rfl (fun hc5 => ?_) (fun hc5 => ?_)
  · rw [decide_eq_true_eq] at hc5
    obtain ⟨f, rfl⟩ : ∃ f : Nat, z = (f : Int) := ⟨z.toNat, by omega⟩
    simp only [← nIJ]
    refine Ex_aload_n d_rm_forced_10 rfl ?_
    refine Ex_iload_n d_rm_forced_11 rfl ?_
    refine Ex_cV1 d_rm_forced_12 pk_rm_forced_351 (t_38 hs) (rm_starts_s hs hK hO hFO (f := f) (by omega) (FT1_M (by omega) hF) (FZ_67 hZ hF (by omega))) ?_
    rintro rv h1 ⟨rfl, hst⟩
    obtain ⟨hst1, hst2, ⟨n, o, hst3⟩, hst4⟩ := id hst
    have frs := hst1.mono (Wst_sr (f := f))
    have hs1 : HT h1 := frs.ht hs (WSM_st f)
    show Ex S rm_forced 15 [some (.ref 38), some (.int (nI (f))), none, none, none, none, none] [.int (bI (gdS K F f 64))] h1 _
    refine Ex_istore_n [some (.ref 38), some (.int (nI (f))), some (.int (bI (gdS K F f 64))), none, none, none, none] d_rm_forced_15 (Nat.le_of_ble_eq_true rfl) rfl ?_
    refine Ex_iconst d_rm_forced_16 ic_0 ?_
    refine Ex_istore_n [some (.ref 38), some (.int (nI (f))), some (.int (bI (gdS K F f 64))), some (.int (0)), none, none, none] d_rm_forced_17 (Nat.le_of_ble_eq_true rfl) rfl ?_
    refine Ex_iconst d_rm_forced_18 ic_1 ?_
    refine Ex_istore [some (.ref 38), some (.int (nI (f))), some (.int (bI (gdS K F f 64))), some (.int (0)), some (.int (1)), none, none] d_rm_forced_19 (Nat.le_of_ble_eq_true rfl) rfl ?_
    refine Ex_iload d_rm_forced_21 rfl ?_
    refine Ex_if_leN (1) 200 d_rm_forced_23 rfl rfl (by omega) (fun hc23 => ?_) (fun hc23 => ?_)
    · exact absurd hc23 (by decide)
    · have hcn := cnB_le (wtB F f (fun _ => none)) 64 0
      refine Ex_mono (rm_forced_N hs hK hO hFO (f := f) (by omega) (FT1_M (by omega) hF) (b := gdS K F f 64) 65 (fun _ => none) (fS F f) 0 1 h1 ⟨fun _ => trivial, fun _ => Nat.le_refl _, fun _ _ => rfl⟩ (by omega) (by omega) ⟨frs, hst2, hst3, hst4, by rw [hst1.I (by have := HT_n hs; omega) (by unfold Wst; omega)]; exact hF.2.1⟩) ?_
      rintro r h2 ⟨rfl, g1, g2, g3⟩
      refine Or.inr ⟨by omega, ?_, ?_, g1.mono WSM_A⟩
      · rw [Int.toNat_natCast, ← nIJ]; rfl
      · rw [Int.toNat_natCast]; exact FM_setF hs hF g1 g2 g3
  · rw [decide_eq_false_iff_not] at hc5
    refine Ex_iconst d_rm_forced_8 ic_m1 ?_
    refine Ex_ireturn d_rm_forced_9 rfl ?_
    exact Or.inl ⟨by omega, rfl, rfl⟩
