/-! kind. -/
theorem J_pos {e : Int} (h : 0 ≤ e) : J e = nI e.toNat := by
  rw [nIJ]; exact congrArg J (by omega)
theorem hi_t : ∀ i, i < 32 → 16 ≤ i → Nat.testBit 4294901760 i = true := by decide
theorem hi_f : ∀ i, i < 16 → Nat.testBit 4294901760 i = false := by decide
theorem and_hiN {u : Nat} (h : u < 4294967296) : u &&& 4294901760 = 0 ↔ u < 65536 := by
  constructor
  · intro z
    refine Nat.lt_pow_two_of_testBit (n := 16) u (fun i hi => ?_)
    by_cases h32 : i < 32
    · have := congrArg (fun q => Nat.testBit q i) z
      simp only [Nat.testBit_and, hi_t i h32 hi, Bool.and_true, Nat.zero_testBit] at this
      exact this
    · exact Nat.testBit_lt_two_pow (Nat.lt_of_lt_of_le h (by exact Nat.pow_le_pow_right (n := 2) (by omega) (show 32 ≤ i by omega)))
  · intro z
    apply Nat.eq_of_testBit_eq
    intro i
    rw [Nat.testBit_and, Nat.zero_testBit]
    by_cases h16 : i < 16
    · rw [hi_f i h16, Bool.and_false]
    · rw [Nat.testBit_lt_two_pow (x := u) (Nat.lt_of_lt_of_le z (by exact Nat.pow_le_pow_right (n := 2) (by omega) (show 16 ≤ i by omega)))]
      rfl
theorem and_hi {e : Int} (h1 : -2147483648 ≤ e) (h2 : e < 2147483648) : J e &&& (-65536) = 0 ↔ (0 ≤ e ∧ e < 65536) := by
  have m : (-65536 : Int32) = nI 4294901760 := by decide
  obtain ⟨u, hu, eu⟩ : ∃ u : Nat, u < 4294967296 ∧ J e = nI u ∧ (u : Int) = e % 4294967296 := ⟨(e % 4294967296).toNat, by omega, by rw [nIJ]; exact J_mod (by omega), by omega⟩
  rw [eu.1, m, nI_and]
  have key := and_hiN hu
  have hle : u &&& 4294901760 ≤ u := Nat.and_le_left
  constructor
  · intro z
    have := key.mp (nI_inj32 (b := 0) (by omega) (by omega) z)
    omega
  · intro z
    rw [key.mpr (by omega)]
    rfl
theorem q4369 {e : Int} (h1 : 0 ≤ e) (h2 : e < 65536) : J e = (J e &&& 15) * 4369 ↔ e = e % 16 * 4369 := by
  rw [J_pos h1, nI_15]
  show nI e.toNat = nI (e.toNat % 16) * nI 4369 ↔ _
  rw [nI_mul, nI_eq (by omega) (by omega)]
  omega
theorem q255 {e : Int} (h1 : 0 ≤ e) (h2 : e < 65536) : (J e &&& 255) = J e >>> ((8 : Int32) &&& 31) ↔ e % 256 = e / 256 := by
  rw [J_pos h1, nI_255]
  show nI (e.toNat % 256) = nI e.toNat >>> (nI 8 &&& 31) ↔ _
  rw [nI_shr (by omega) (by omega), nI_eq (by omega) (by omega)]
  omega
theorem q15 {e : Int} (h1 : 0 ≤ e) (h2 : e < 65536) : (J e &&& 15) = (J e >>> ((4 : Int32) &&& 31)) &&& 15 ↔ e % 16 = e / 16 % 16 := by
  obtain ⟨n, rfl⟩ : ∃ n : Nat, e = (n : Int) := ⟨e.toNat, by omega⟩
  rw [← nIJ, nI_15]
  show nI (n % 16) = (nI n >>> (nI 4 &&& 31)) &&& 15 ↔ _
  rw [nI_shr (by omega) (by omega), nI_15, nI_eq (by omega) (by omega), show (2 : Nat) ^ 4 = 16 from rfl]
  omega
abbrev okE (e t c : Int) : Prop := 0 ≤ e ∧ e < 65536 ∧ (t = 1 ∨ t = 2 ∨ t = 4) ∧ 0 ≤ c ∧ c ≤ 1000 ∧ (¬ t = 1 ∨ e = e % 16 * 4369) ∧ (¬ t = 2 ∨ e % 256 = e / 256)
abbrev okK (K : SK) (e t c : Int) (its : Int64) : Prop := K.1 < 40 ∧ okE e t c ∧ ¬ its = 0 ∧ nameS K its < 0
def kindS (K : SK) (e t c : Int) (its : Int64) : Int := if okK K e t c its then K.1 else -1
def pushK (K : SK) (E T C : Nat) (b : Bool) (its : Int64) : SK := (K.1 + 1, va_up (kE K) K.1 E, va_up (kT K) K.1 T, va_up (kC K) K.1 C, va_up (kM K) K.1 b, va_up (kN K) K.1 its)
def kindK (K : SK) (e t c : Int) (b : Bool) (its : Int64) : SK := if okK K e t c its then pushK K e.toNat t.toNat c.toNat b its else K
def WKM (a k : Nat) : Prop := (39 ≤ a ∧ a ≤ 43) ∨ (a = 38 ∧ k = 5)
def WKC (a k : Nat) : Prop := (2 ≤ a ∧ a ≤ 6) ∨ (a = 1 ∧ k = 0)
theorem KM_push {K : SK} {h h' : mj_H} (hK : KM K h) (E T C : Nat) (b : Bool) (its : Int64) (e5 : mI h' 38 5 = nI (K.1 + 1)) (eE : mI h' 39 = va_up (mI h 39) K.1 (nI E)) (eT : mI h' 40 = va_up (mI h 40) K.1 (nI T)) (eC : mI h' 41 = va_up (mI h 41) K.1 (nI C)) (eM : mI h' 42 = va_up (mI h 42) K.1 (bI b)) (eN : mL h' 43 = va_up (mL h 43) K.1 its) : KM (pushK K E T C b its) h' := by
  refine ⟨e5, fun k hk => ?_⟩
  obtain ⟨a1, a2, a3, a4, a5⟩ := hK.2 k hk
  rw [eE, eT, eC, eM, eN]
  unfold pushK kE kT kC kM kN va_up
  by_cases hkn : k = K.1
  · simp [hkn]
  · simp only [if_neg hkn]
    exact ⟨a1, a2, a3, a4, a5⟩
theorem KC_push {K : SK} {h h' : mj_H} (hK : KC K h) (E T C : Nat) (b : Bool) (its : Int64) (e5 : mI h' 1 0 = nI (K.1 + 1)) (eE : mI h' 2 = va_up (mI h 2) K.1 (nI E)) (eT : mI h' 3 = va_up (mI h 3) K.1 (nI T)) (eC : mI h' 5 = va_up (mI h 5) K.1 (nI C)) (eM : mI h' 4 = va_up (mI h 4) K.1 (bI b)) (eN : mL h' 6 = va_up (mL h 6) K.1 its) : KC (pushK K E T C b its) h' := by
  refine ⟨e5, fun k hk => ?_⟩
  obtain ⟨a1, a2, a3, a4, a5⟩ := hK.2 k hk
  rw [eE, eT, eC, eM, eN]
  unfold pushK kE kT kC kM kN va_up
  by_cases hkn : k = K.1
  · simp [hkn]
  · simp only [if_neg hkn]
    exact ⟨a1, a2, a3, a4, a5⟩
theorem KM_fr {W : Nat → Nat → Prop} {K : SK} {h h' : mj_H} (hs : HT h) (f : Fr W h h') (hw : ∀ a k, WKM a k → ¬ W a k) (hK : KM K h) : KM K h' := by
  have hn := HT_n hs
  refine ⟨by rw [(f.2 38 5 (by omega) (hw _ _ (Or.inr ⟨rfl, rfl⟩))).1]; exact hK.1, fun k hk => ?_⟩
  rw [(f.2 39 k (by omega) (hw _ _ (Or.inl (by omega)))).1, (f.2 40 k (by omega) (hw _ _ (Or.inl (by omega)))).1, (f.2 41 k (by omega) (hw _ _ (Or.inl (by omega)))).1, (f.2 42 k (by omega) (hw _ _ (Or.inl (by omega)))).1, (f.2 43 k (by omega) (hw _ _ (Or.inl (by omega)))).2.1]
  exact hK.2 k hk
theorem KC_fr {W : Nat → Nat → Prop} {K : SK} {h h' : mj_H} (hs : HT h) (f : Fr W h h') (hw : ∀ a k, WKC a k → ¬ W a k) (hK : KC K h) : KC K h' := by
  have hn := HT_n hs
  refine ⟨by rw [(f.2 1 0 (by omega) (hw _ _ (Or.inr ⟨rfl, rfl⟩))).1]; exact hK.1, fun k hk => ?_⟩
  rw [(f.2 2 k (by omega) (hw _ _ (Or.inl (by omega)))).1, (f.2 3 k (by omega) (hw _ _ (Or.inl (by omega)))).1, (f.2 5 k (by omega) (hw _ _ (Or.inl (by omega)))).1, (f.2 4 k (by omega) (hw _ _ (Or.inl (by omega)))).1, (f.2 6 k (by omega) (hw _ _ (Or.inl (by omega)))).2.1]
  exact hK.2 k hk
theorem kindK_ok {K : SK} (hO : KO K) (hN : KN K) {e t c : Int} {b : Bool} {its : Int64} : KO (kindK K e t c b its) ∧ KN (kindK K e t c b its) := by
  unfold kindK
  split
  · rename_i hk
    obtain ⟨h1, ⟨e1, e2, e3, e4, e5, e6, e7⟩, h3, h4⟩ := hk
    refine ⟨⟨by show K.1 + 1 ≤ 40; omega, fun k hk => ?_⟩, fun k hk => ?_⟩
    · have hk : k < K.1 + 1 := hk
      by_cases hkn : k = K.1
      · subst hkn
        simp only [pushK, kE, kT, kC, va_up, if_pos]
        omega
      · have := hO.2 k (by omega)
        simp only [pushK, kE, kT, kC, va_up, if_neg hkn]
        exact this
    · have hk : k < K.1 + 1 := hk
      by_cases hkn : k = K.1
      · subst hkn
        simp only [pushK, kN, va_up, if_pos]
        exact h3
      · have := hN k (by omega)
        simp only [pushK, kN, va_up, if_neg hkn]
        exact this
  · exact ⟨hO, hN⟩
theorem rm_kind_s {S : mj_S} {h : mj_H} (hs : HT h) {K : SK} (hK : KM K h) (hO : KO K) (hN : KN K) {e t c : Int} (he : -2147483648 ≤ e ∧ e < 2147483648) (ht : -2147483648 ≤ t ∧ t < 2147483648) (hc : -2147483648 ≤ c ∧ c < 2147483648) (b : Bool) (name : Int64) : Cl S rm_kind [.ref 38, .int (J e), .int (J t), .int (bI b), .int (J c), .long name] h (fun r h' => r = some (.int (J (kindS K e t c (plS name 8 0)))) ∧ KM (kindK K e t c b (plS name 8 0)) h' ∧ Fr WKM h h') := by
  obtain ⟨i, hi0, hi1⟩ : ∃ i : Nat, (plS name 8 0 = 0 → i = 0) ∧ (¬ plS name 8 0 = 0 → i = 1) := by
    by_cases z : plS name 8 0 = 0
    · exact ⟨0, fun _ => rfl, fun q => absurd z q⟩
    · exact ⟨1, fun q => absurd q z, fun _ => rfl⟩
  have hn40 := hO.1
  have hnr : -1 ≤ nameS K (plS name 8 0) ∧ nameS K (plS name 8 0) < (0 + K.1 : Nat) := nmF_r (kN K) (plS name 8 0) K.1 0
  have hJ3 : ∀ cb : Bool, (cb = true ↔ K.1 < 40 ∧ 0 ≤ e ∧ e < 65536 ∧ (t = 1 ∨ t = 2 ∨ t = 4) ∧ 0 ≤ c ∧ c ≤ 1000 ∧ i = 1 ∧ (¬ t = 1 ∨ e = e % 16 * 4369) ∧ (¬ t = 2 ∨ e % 256 = e / 256)) → Ex S rm_kind 127 [some (.ref 38), some (.int (J (e))), some (.int (J (t))), some (.int (bI (b))), some (.int (J (c))), some (.long (name)), none, some (.long (plS name 8 0)), none, some (.int (J (e) &&& (15 : Int32))), some (.int (bI (cb)))] [] h (fun r h' => r = some (.int (J (kindS K e t c (plS name 8 0)))) ∧ KM (kindK K e t c b (plS name 8 0)) h' ∧ Fr WKM h h') := by
    intro cb hcb
    refine Ex_iload d_rm_kind_127 rfl ?_
    refine Ex_if_eqB (cb) 141 d_rm_kind_129 rfl rfl (fun hc129 => ?_) (fun hc129 => ?_)
    · have hp : ¬ (K.1 < 40 ∧ 0 ≤ e ∧ e < 65536 ∧ (t = 1 ∨ t = 2 ∨ t = 4) ∧ 0 ≤ c ∧ c ≤ 1000 ∧ i = 1 ∧ (¬ t = 1 ∨ e = e % 16 * 4369) ∧ (¬ t = 2 ∨ e % 256 = e / 256)) := fun z => by rw [hcb.mpr z] at hc129; cases hc129
      refine Ex_iconst d_rm_kind_141 ic_m1 ?_
      refine Ex_ireturn d_rm_kind_142 rfl ?_
      have hno : ¬ okK K e t c (plS name 8 0) := by
        rintro ⟨z1, z2, z3, z4⟩
        have := hi1 z3
        unfold okE at z2
        omega
      exact ⟨by unfold kindS; rw [if_neg hno]; rfl, by unfold kindK; rw [if_neg hno]; exact hK, Fr.rf⟩
    · have hp := hcb.mp hc129
      refine Ex_aload_n d_rm_kind_132 rfl ?_
      refine Ex_lload d_rm_kind_133 rfl ?_
      refine Ex_pV1 d_rm_kind_135 pk_rm_kind_133 (t_38 hs) (rm_named_s hs hK hO hN name) ?_
      refine Ex_if_ltZ (nameS K (plS name 8 0)) 143 d_rm_kind_138 rfl rfl (by omega) (fun hc138 => ?_) (fun hc138 => ?_)
      · have hok : okK K e t c (plS name 8 0) := ⟨by omega, by unfold okE; omega, fun z => by have := hi0 z; omega, hc138⟩
        refine Ex_aload_n d_rm_kind_143 rfl ?_
        refine Ex_getR d_rm_kind_144 pf_rm_7 rfl (t_38 hs) (r_38_0 hs) ?_
        refine Ex_aload_n d_rm_kind_147 rfl ?_
        refine Ex_getIE d_rm_kind_148 pf_rm_128 rfl (t_38 hs) hK.1 ?_
        refine Ex_iload_n d_rm_kind_151 rfl ?_
        refine Ex_iastoreN (a := K.1) d_rm_kind_152 (t_39 hs) rfl (by omega) (by decide) ?_
        refine Ex_aload_n d_rm_kind_153 rfl ?_
        refine Ex_getR d_rm_kind_154 pf_rm_13 rfl (t_38 hs) (r_38_1 hs) ?_
        refine Ex_aload_n d_rm_kind_157 rfl ?_
        refine Ex_getIE d_rm_kind_158 pf_rm_128 rfl (t_38 hs) hK.1 ?_
        refine Ex_iload_n d_rm_kind_161 rfl ?_
        refine Ex_iastoreN (a := K.1) d_rm_kind_162 (t_40 hs) rfl (by omega) (by decide) ?_
        refine Ex_aload_n d_rm_kind_163 rfl ?_
        refine Ex_getR d_rm_kind_164 pf_rm_19 rfl (t_38 hs) (r_38_3 hs) ?_
        refine Ex_aload_n d_rm_kind_167 rfl ?_
        refine Ex_getIE d_rm_kind_168 pf_rm_128 rfl (t_38 hs) hK.1 ?_
        refine Ex_iload_n d_rm_kind_171 rfl ?_
        refine Ex_bastoreN (a := K.1) d_rm_kind_172 (t_42 hs) rfl (by omega) (by decide) (bI_01 _) ?_
        refine Ex_aload_n d_rm_kind_173 rfl ?_
        refine Ex_getR d_rm_kind_174 pf_rm_16 rfl (t_38 hs) (r_38_2 hs) ?_
        refine Ex_aload_n d_rm_kind_177 rfl ?_
        refine Ex_getIE d_rm_kind_178 pf_rm_128 rfl (t_38 hs) hK.1 ?_
        refine Ex_iload d_rm_kind_181 rfl ?_
        refine Ex_iastoreN (a := K.1) d_rm_kind_183 (t_41 hs) rfl (by omega) (by decide) ?_
        refine Ex_aload_n d_rm_kind_184 rfl ?_
        refine Ex_getR d_rm_kind_185 pf_rm_23 rfl (t_38 hs) (r_38_4 hs) ?_
        refine Ex_aload_n d_rm_kind_188 rfl ?_
        refine Ex_getIE d_rm_kind_189 pf_rm_128 rfl (t_38 hs) hK.1 ?_
        refine Ex_lload d_rm_kind_192 rfl ?_
        refine Ex_lastoreN (a := K.1) d_rm_kind_194 (t_43 hs) rfl (by omega) (by decide) ?_
        refine Ex_aload_n d_rm_kind_195 rfl ?_
        refine Ex_dup rfl d_rm_kind_196 ?_
        refine Ex_getIE d_rm_kind_197 pf_rm_128 rfl (t_38 hs) hK.1 ?_
        refine Ex_iconst d_rm_kind_200 ic_1 ?_
        refine Ex_iaddN (K.1) (1) d_rm_kind_201 rfl rfl ?_
        refine Ex_putI d_rm_kind_202 pf_rm_128 (Or.inl rfl) (t_38 hs) (Or.inl rfl) ?_
        refine Ex_aload_n d_rm_kind_205 rfl ?_
        refine Ex_getIE d_rm_kind_206 pf_rm_128 rfl (t_38 hs) rfl ?_
        refine Ex_iconst d_rm_kind_209 ic_1 ?_
        refine Ex_isubN (K.1 + 1) (1) d_rm_kind_210 rfl rfl (by omega) ?_
        refine Ex_ireturn d_rm_kind_211 rfl ?_
        refine ⟨by unfold kindS; rw [if_pos hok, show K.1 + 1 - 1 = K.1 by omega, nIJ], ?_, ?_⟩
        · unfold kindK
          rw [if_pos hok]
          refine KM_push hK _ _ _ _ _ rfl ?_ ?_ ?_ rfl rfl
          · rw [← J_pos (show 0 ≤ e by omega)]; rfl
          · rw [← J_pos (show 0 ≤ t by omega)]; rfl
          · rw [← J_pos (show 0 ≤ c by omega)]; rfl
        · refine Fr.sI (Fr.sL (Fr.sI (Fr.sI (Fr.sI (Fr.sI Fr.rf ?_) ?_) ?_) ?_) ?_) ?_ <;> (unfold WKM; omega)
      · refine Ex_iconst d_rm_kind_141 ic_m1 ?_
        refine Ex_ireturn d_rm_kind_142 rfl ?_
        have hno : ¬ okK K e t c (plS name 8 0) := by
          rintro ⟨z1, z2, z3, z4⟩
          have := hi1 z3
          unfold okE at z2
          omega
        exact ⟨by unfold kindS; rw [if_neg hno]; rfl, by unfold kindK; rw [if_neg hno]; exact hK, Fr.rf⟩
  have hJ2 : ∀ cb : Bool, (cb = true ↔ K.1 < 40 ∧ 0 ≤ e ∧ e < 65536 ∧ (t = 1 ∨ t = 2 ∨ t = 4) ∧ 0 ≤ c ∧ c ≤ 1000 ∧ i = 1 ∧ (¬ t = 1 ∨ e = e % 16 * 4369)) → Ex S rm_kind 98 [some (.ref 38), some (.int (J (e))), some (.int (J (t))), some (.int (bI (b))), some (.int (J (c))), some (.long (name)), none, some (.long (plS name 8 0)), none, some (.int (J (e) &&& (15 : Int32))), some (.int (bI (cb)))] [] h (fun r h' => r = some (.int (J (kindS K e t c (plS name 8 0)))) ∧ KM (kindK K e t c b (plS name 8 0)) h' ∧ Fr WKM h h') := by
    intro cb hcb
    refine Ex_iload_n d_rm_kind_98 rfl ?_
    refine Ex_iconst d_rm_kind_99 ic_2 ?_
    refine Ex_icmp_neZ (t) ((2)) 127 d_rm_kind_100 rfl rfl (by decide) (by omega) (by omega) (fun hc100 => ?_) (fun hc100 => ?_)
    · exact hJ3 cb ⟨fun z => by have := hcb.mp z; omega, fun z => hcb.mpr (by omega)⟩
    · refine Ex_iload d_rm_kind_103 rfl ?_
      refine Ex_if_eqB (cb) 124 d_rm_kind_105 rfl rfl (fun hc105 => ?_) (fun hc105 => ?_)
      · have hp : ¬ (K.1 < 40 ∧ 0 ≤ e ∧ e < 65536 ∧ (t = 1 ∨ t = 2 ∨ t = 4) ∧ 0 ≤ c ∧ c ≤ 1000 ∧ i = 1 ∧ (¬ t = 1 ∨ e = e % 16 * 4369)) := fun z => by rw [hcb.mpr z] at hc105; cases hc105
        refine Ex_iconst d_rm_kind_124 ic_0 ?_
        refine Ex_istore [some (.ref 38), some (.int (J (e))), some (.int (J (t))), some (.int (bI (b))), some (.int (J (c))), some (.long (name)), none, some (.long (plS name 8 0)), none, some (.int (J (e) &&& (15 : Int32))), some (.int (0))] d_rm_kind_125 (Nat.le_of_ble_eq_true rfl) rfl ?_
        exact hJ3 false ⟨fun z => (by cases z), fun z => by exfalso; omega⟩
      · have hp := hcb.mp hc105
        refine Ex_iload_n d_rm_kind_108 rfl ?_
        refine Ex_sipush d_rm_kind_109 sp_255 ?_
        refine Ex_iand d_rm_kind_112 ?_
        refine Ex_iload_n d_rm_kind_113 rfl ?_
        refine Ex_bipush d_rm_kind_114 bp_8 ?_
        refine Ex_ishr d_rm_kind_116 ?_
        refine Ex_icmp_ne 124 d_rm_kind_117 rfl (fun hc117 => ?_) (fun hc117 => ?_)
        · have hq : ¬ e % 256 = e / 256 := fun z => hc117 ((q255 (by omega) (by omega)).mpr z)
          refine Ex_iconst d_rm_kind_124 ic_0 ?_
          refine Ex_istore [some (.ref 38), some (.int (J (e))), some (.int (J (t))), some (.int (bI (b))), some (.int (J (c))), some (.long (name)), none, some (.long (plS name 8 0)), none, some (.int (J (e) &&& (15 : Int32))), some (.int (0))] d_rm_kind_125 (Nat.le_of_ble_eq_true rfl) rfl ?_
          exact hJ3 false ⟨fun z => (by cases z), fun z => by exfalso; omega⟩
        · have hq := (q255 (show 0 ≤ e by omega) (by omega)).mp hc117
          refine Ex_iconst d_rm_kind_120 ic_1 ?_
          refine Ex_goto 125 d_rm_kind_121 rfl ?_
          refine Ex_istore [some (.ref 38), some (.int (J (e))), some (.int (J (t))), some (.int (bI (b))), some (.int (J (c))), some (.long (name)), none, some (.long (plS name 8 0)), none, some (.int (J (e) &&& (15 : Int32))), some (.int (1))] d_rm_kind_125 (Nat.le_of_ble_eq_true rfl) rfl ?_
          exact hJ3 true ⟨fun _ => by omega, fun _ => rfl⟩
  have hJ1 : ∀ cb : Bool, (cb = true ↔ K.1 < 40 ∧ 0 ≤ e ∧ e < 65536 ∧ (t = 1 ∨ t = 2 ∨ t = 4) ∧ 0 ≤ c ∧ c ≤ 1000 ∧ i = 1) → Ex S rm_kind 71 [some (.ref 38), some (.int (J (e))), some (.int (J (t))), some (.int (bI (b))), some (.int (J (c))), some (.long (name)), none, some (.long (plS name 8 0)), none, some (.int (J (e) &&& (15 : Int32))), some (.int (bI (cb)))] [] h (fun r h' => r = some (.int (J (kindS K e t c (plS name 8 0)))) ∧ KM (kindK K e t c b (plS name 8 0)) h' ∧ Fr WKM h h') := by
    intro cb hcb
    refine Ex_iload_n d_rm_kind_71 rfl ?_
    refine Ex_iconst d_rm_kind_72 ic_1 ?_
    refine Ex_icmp_neZ (t) ((1)) 98 d_rm_kind_73 rfl rfl (by decide) (by omega) (by omega) (fun hc73 => ?_) (fun hc73 => ?_)
    · exact hJ2 cb ⟨fun z => by have := hcb.mp z; omega, fun z => hcb.mpr (by omega)⟩
    · refine Ex_iload d_rm_kind_76 rfl ?_
      refine Ex_if_eqB (cb) 95 d_rm_kind_78 rfl rfl (fun hc78 => ?_) (fun hc78 => ?_)
      · have hp : ¬ (K.1 < 40 ∧ 0 ≤ e ∧ e < 65536 ∧ (t = 1 ∨ t = 2 ∨ t = 4) ∧ 0 ≤ c ∧ c ≤ 1000 ∧ i = 1) := fun z => by rw [hcb.mpr z] at hc78; cases hc78
        refine Ex_iconst d_rm_kind_95 ic_0 ?_
        refine Ex_istore [some (.ref 38), some (.int (J (e))), some (.int (J (t))), some (.int (bI (b))), some (.int (J (c))), some (.long (name)), none, some (.long (plS name 8 0)), none, some (.int (J (e) &&& (15 : Int32))), some (.int (0))] d_rm_kind_96 (Nat.le_of_ble_eq_true rfl) rfl ?_
        exact hJ2 false ⟨fun z => (by cases z), fun z => by exfalso; omega⟩
      · have hp := hcb.mp hc78
        refine Ex_iload_n d_rm_kind_81 rfl ?_
        refine Ex_iload d_rm_kind_82 rfl ?_
        refine Ex_sipush d_rm_kind_84 sp_4369 ?_
        refine Ex_imul d_rm_kind_87 ?_
        refine Ex_icmp_ne 95 d_rm_kind_88 rfl (fun hc88 => ?_) (fun hc88 => ?_)
        · have hq : ¬ e = e % 16 * 4369 := fun z => hc88 ((q4369 (by omega) (by omega)).mpr z)
          refine Ex_iconst d_rm_kind_95 ic_0 ?_
          refine Ex_istore [some (.ref 38), some (.int (J (e))), some (.int (J (t))), some (.int (bI (b))), some (.int (J (c))), some (.long (name)), none, some (.long (plS name 8 0)), none, some (.int (J (e) &&& (15 : Int32))), some (.int (0))] d_rm_kind_96 (Nat.le_of_ble_eq_true rfl) rfl ?_
          exact hJ2 false ⟨fun z => (by cases z), fun z => by exfalso; omega⟩
        · have hq := (q4369 (show 0 ≤ e by omega) (by omega)).mp hc88
          refine Ex_iconst d_rm_kind_91 ic_1 ?_
          refine Ex_goto 96 d_rm_kind_92 rfl ?_
          refine Ex_istore [some (.ref 38), some (.int (J (e))), some (.int (J (t))), some (.int (bI (b))), some (.int (J (c))), some (.long (name)), none, some (.long (plS name 8 0)), none, some (.int (J (e) &&& (15 : Int32))), some (.int (1))] d_rm_kind_96 (Nat.le_of_ble_eq_true rfl) rfl ?_
          exact hJ2 true ⟨fun _ => by omega, fun _ => rfl⟩
  show Ex S rm_kind 0 [some (.ref 38), some (.int (J (e))), some (.int (J (t))), some (.int (bI (b))), some (.int (J (c))), some (.long (name)), none, none, none, none, none] [] h _
  refine Ex_lload d_rm_kind_0 rfl ?_
  refine Ex_pS1 d_rm_kind_2 pk_rm_kind_124 (rm_plain_s name) ?_
  refine Ex_lstore [some (.ref 38), some (.int (J (e))), some (.int (J (t))), some (.int (bI (b))), some (.int (J (c))), some (.long (name)), none, some (.long (plS name 8 0)), none, none, none] d_rm_kind_5 (Nat.le_of_ble_eq_true rfl) rfl ?_
  refine Ex_iload_n d_rm_kind_7 rfl ?_
  refine Ex_bipush d_rm_kind_8 bp_15 ?_
  refine Ex_iand d_rm_kind_10 ?_
  refine Ex_istore [some (.ref 38), some (.int (J (e))), some (.int (J (t))), some (.int (bI (b))), some (.int (J (c))), some (.long (name)), none, some (.long (plS name 8 0)), none, some (.int ((J (e)) &&& (15 : Int32))), none] d_rm_kind_11 (Nat.le_of_ble_eq_true rfl) rfl ?_
  refine Ex_aload_n d_rm_kind_13 rfl ?_
  refine Ex_getIE d_rm_kind_14 pf_rm_128 rfl (t_38 hs) hK.1 ?_
  refine Ex_bipush d_rm_kind_17 bp_40 ?_
  refine Ex_icmp_geN (K.1) (40) 68 d_rm_kind_19 rfl rfl rfl (by omega) (by omega) (fun hc19 => ?_) (fun hc19 => ?_)
  · refine Ex_iconst d_rm_kind_68 ic_0 ?_
    refine Ex_istore [some (.ref 38), some (.int (J (e))), some (.int (J (t))), some (.int (bI (b))), some (.int (J (c))), some (.long (name)), none, some (.long (plS name 8 0)), none, some (.int ((J (e)) &&& (15 : Int32))), some (.int (0))] d_rm_kind_69 (Nat.le_of_ble_eq_true rfl) rfl ?_
    exact hJ1 false ⟨fun z => (by cases z), fun z => by exfalso; omega⟩
  · refine Ex_iload_n d_rm_kind_22 rfl ?_
    refine Ex_ldc pi_rm_132 d_rm_kind_23 ?_
    refine Ex_iand d_rm_kind_25 ?_
    refine Ex_if_ne 68 d_rm_kind_26 rfl (fun hc26 => ?_) (fun hc26 => ?_)
    · have hp26 : ¬ (0 ≤ e ∧ e < 65536) := fun z => hc26 ((and_hi he.1 he.2).mpr z)
      refine Ex_iconst d_rm_kind_68 ic_0 ?_
      refine Ex_istore [some (.ref 38), some (.int (J (e))), some (.int (J (t))), some (.int (bI (b))), some (.int (J (c))), some (.long (name)), none, some (.long (plS name 8 0)), none, some (.int ((J (e)) &&& (15 : Int32))), some (.int (0))] d_rm_kind_69 (Nat.le_of_ble_eq_true rfl) rfl ?_
      exact hJ1 false ⟨fun z => (by cases z), fun z => by exfalso; omega⟩
    · have hp26 := (and_hi he.1 he.2).mp hc26
      refine Ex_iload_n d_rm_kind_29 rfl ?_
      refine Ex_iconst d_rm_kind_30 ic_1 ?_
      refine Ex_icmp_eqZ (t) ((1)) 44 d_rm_kind_31 rfl rfl (by decide) (by omega) (by omega) (fun hc31 => ?_) (fun hc31 => ?_)
      · refine Ex_iload d_rm_kind_44 rfl ?_
        refine Ex_if_ltZ (c) 68 d_rm_kind_46 rfl rfl (by omega) (fun hc46 => ?_) (fun hc46 => ?_)
        · refine Ex_iconst d_rm_kind_68 ic_0 ?_
          refine Ex_istore [some (.ref 38), some (.int (J (e))), some (.int (J (t))), some (.int (bI (b))), some (.int (J (c))), some (.long (name)), none, some (.long (plS name 8 0)), none, some (.int ((J (e)) &&& (15 : Int32))), some (.int (0))] d_rm_kind_69 (Nat.le_of_ble_eq_true rfl) rfl ?_
          exact hJ1 false ⟨fun z => (by cases z), fun z => by exfalso; omega⟩
        · refine Ex_iload d_rm_kind_49 rfl ?_
          refine Ex_sipush d_rm_kind_51 sp_1000 ?_
          refine Ex_icmp_gtZ (c) ((1000)) 68 d_rm_kind_54 rfl rfl (by decide) (by omega) (by omega) (fun hc54 => ?_) (fun hc54 => ?_)
          · refine Ex_iconst d_rm_kind_68 ic_0 ?_
            refine Ex_istore [some (.ref 38), some (.int (J (e))), some (.int (J (t))), some (.int (bI (b))), some (.int (J (c))), some (.long (name)), none, some (.long (plS name 8 0)), none, some (.int ((J (e)) &&& (15 : Int32))), some (.int (0))] d_rm_kind_69 (Nat.le_of_ble_eq_true rfl) rfl ?_
            exact hJ1 false ⟨fun z => (by cases z), fun z => by exfalso; omega⟩
          · refine Ex_lload d_rm_kind_57 rfl ?_
            refine Ex_lconst d_rm_kind_59 lc_0 ?_
            refine Ex_lcmp d_rm_kind_60 ?_
            refine Ex_if_eqL 68 d_rm_kind_61 rfl (fun hc61 => ?_) (fun hc61 => ?_)
            · have hi := hi0 hc61
              refine Ex_iconst d_rm_kind_68 ic_0 ?_
              refine Ex_istore [some (.ref 38), some (.int (J (e))), some (.int (J (t))), some (.int (bI (b))), some (.int (J (c))), some (.long (name)), none, some (.long (plS name 8 0)), none, some (.int ((J (e)) &&& (15 : Int32))), some (.int (0))] d_rm_kind_69 (Nat.le_of_ble_eq_true rfl) rfl ?_
              exact hJ1 false ⟨fun z => (by cases z), fun z => by exfalso; omega⟩
            · have hi := hi1 hc61
              refine Ex_iconst d_rm_kind_64 ic_1 ?_
              refine Ex_goto 69 d_rm_kind_65 rfl ?_
              refine Ex_istore [some (.ref 38), some (.int (J (e))), some (.int (J (t))), some (.int (bI (b))), some (.int (J (c))), some (.long (name)), none, some (.long (plS name 8 0)), none, some (.int ((J (e)) &&& (15 : Int32))), some (.int (1))] d_rm_kind_69 (Nat.le_of_ble_eq_true rfl) rfl ?_
              exact hJ1 true ⟨fun _ => by omega, fun _ => rfl⟩
      · refine Ex_iload_n d_rm_kind_34 rfl ?_
        refine Ex_iconst d_rm_kind_35 ic_2 ?_
        refine Ex_icmp_eqZ (t) ((2)) 44 d_rm_kind_36 rfl rfl (by decide) (by omega) (by omega) (fun hc36 => ?_) (fun hc36 => ?_)
        · refine Ex_iload d_rm_kind_44 rfl ?_
          refine Ex_if_ltZ (c) 68 d_rm_kind_46 rfl rfl (by omega) (fun hc46 => ?_) (fun hc46 => ?_)
          · refine Ex_iconst d_rm_kind_68 ic_0 ?_
            refine Ex_istore [some (.ref 38), some (.int (J (e))), some (.int (J (t))), some (.int (bI (b))), some (.int (J (c))), some (.long (name)), none, some (.long (plS name 8 0)), none, some (.int ((J (e)) &&& (15 : Int32))), some (.int (0))] d_rm_kind_69 (Nat.le_of_ble_eq_true rfl) rfl ?_
            exact hJ1 false ⟨fun z => (by cases z), fun z => by exfalso; omega⟩
          · refine Ex_iload d_rm_kind_49 rfl ?_
            refine Ex_sipush d_rm_kind_51 sp_1000 ?_
            refine Ex_icmp_gtZ (c) ((1000)) 68 d_rm_kind_54 rfl rfl (by decide) (by omega) (by omega) (fun hc54 => ?_) (fun hc54 => ?_)
            · refine Ex_iconst d_rm_kind_68 ic_0 ?_
              refine Ex_istore [some (.ref 38), some (.int (J (e))), some (.int (J (t))), some (.int (bI (b))), some (.int (J (c))), some (.long (name)), none, some (.long (plS name 8 0)), none, some (.int ((J (e)) &&& (15 : Int32))), some (.int (0))] d_rm_kind_69 (Nat.le_of_ble_eq_true rfl) rfl ?_
              exact hJ1 false ⟨fun z => (by cases z), fun z => by exfalso; omega⟩
            · refine Ex_lload d_rm_kind_57 rfl ?_
              refine Ex_lconst d_rm_kind_59 lc_0 ?_
              refine Ex_lcmp d_rm_kind_60 ?_
              refine Ex_if_eqL 68 d_rm_kind_61 rfl (fun hc61 => ?_) (fun hc61 => ?_)
              · have hi := hi0 hc61
                refine Ex_iconst d_rm_kind_68 ic_0 ?_
                refine Ex_istore [some (.ref 38), some (.int (J (e))), some (.int (J (t))), some (.int (bI (b))), some (.int (J (c))), some (.long (name)), none, some (.long (plS name 8 0)), none, some (.int ((J (e)) &&& (15 : Int32))), some (.int (0))] d_rm_kind_69 (Nat.le_of_ble_eq_true rfl) rfl ?_
                exact hJ1 false ⟨fun z => (by cases z), fun z => by exfalso; omega⟩
              · have hi := hi1 hc61
                refine Ex_iconst d_rm_kind_64 ic_1 ?_
                refine Ex_goto 69 d_rm_kind_65 rfl ?_
                refine Ex_istore [some (.ref 38), some (.int (J (e))), some (.int (J (t))), some (.int (bI (b))), some (.int (J (c))), some (.long (name)), none, some (.long (plS name 8 0)), none, some (.int ((J (e)) &&& (15 : Int32))), some (.int (1))] d_rm_kind_69 (Nat.le_of_ble_eq_true rfl) rfl ?_
                exact hJ1 true ⟨fun _ => by omega, fun _ => rfl⟩
        · refine Ex_iload_n d_rm_kind_39 rfl ?_
          refine Ex_iconst d_rm_kind_40 ic_4 ?_
          refine Ex_icmp_neZ (t) ((4)) 68 d_rm_kind_41 rfl rfl (by decide) (by omega) (by omega) (fun hc41 => ?_) (fun hc41 => ?_)
          · refine Ex_iconst d_rm_kind_68 ic_0 ?_
            refine Ex_istore [some (.ref 38), some (.int (J (e))), some (.int (J (t))), some (.int (bI (b))), some (.int (J (c))), some (.long (name)), none, some (.long (plS name 8 0)), none, some (.int ((J (e)) &&& (15 : Int32))), some (.int (0))] d_rm_kind_69 (Nat.le_of_ble_eq_true rfl) rfl ?_
            exact hJ1 false ⟨fun z => (by cases z), fun z => by exfalso; omega⟩
          · refine Ex_iload d_rm_kind_44 rfl ?_
            refine Ex_if_ltZ (c) 68 d_rm_kind_46 rfl rfl (by omega) (fun hc46 => ?_) (fun hc46 => ?_)
            · refine Ex_iconst d_rm_kind_68 ic_0 ?_
              refine Ex_istore [some (.ref 38), some (.int (J (e))), some (.int (J (t))), some (.int (bI (b))), some (.int (J (c))), some (.long (name)), none, some (.long (plS name 8 0)), none, some (.int ((J (e)) &&& (15 : Int32))), some (.int (0))] d_rm_kind_69 (Nat.le_of_ble_eq_true rfl) rfl ?_
              exact hJ1 false ⟨fun z => (by cases z), fun z => by exfalso; omega⟩
            · refine Ex_iload d_rm_kind_49 rfl ?_
              refine Ex_sipush d_rm_kind_51 sp_1000 ?_
              refine Ex_icmp_gtZ (c) ((1000)) 68 d_rm_kind_54 rfl rfl (by decide) (by omega) (by omega) (fun hc54 => ?_) (fun hc54 => ?_)
              · refine Ex_iconst d_rm_kind_68 ic_0 ?_
                refine Ex_istore [some (.ref 38), some (.int (J (e))), some (.int (J (t))), some (.int (bI (b))), some (.int (J (c))), some (.long (name)), none, some (.long (plS name 8 0)), none, some (.int ((J (e)) &&& (15 : Int32))), some (.int (0))] d_rm_kind_69 (Nat.le_of_ble_eq_true rfl) rfl ?_
                exact hJ1 false ⟨fun z => (by cases z), fun z => by exfalso; omega⟩
              · refine Ex_lload d_rm_kind_57 rfl ?_
                refine Ex_lconst d_rm_kind_59 lc_0 ?_
                refine Ex_lcmp d_rm_kind_60 ?_
                refine Ex_if_eqL 68 d_rm_kind_61 rfl (fun hc61 => ?_) (fun hc61 => ?_)
                · have hi := hi0 hc61
                  refine Ex_iconst d_rm_kind_68 ic_0 ?_
                  refine Ex_istore [some (.ref 38), some (.int (J (e))), some (.int (J (t))), some (.int (bI (b))), some (.int (J (c))), some (.long (name)), none, some (.long (plS name 8 0)), none, some (.int ((J (e)) &&& (15 : Int32))), some (.int (0))] d_rm_kind_69 (Nat.le_of_ble_eq_true rfl) rfl ?_
                  exact hJ1 false ⟨fun z => (by cases z), fun z => by exfalso; omega⟩
                · have hi := hi1 hc61
                  refine Ex_iconst d_rm_kind_64 ic_1 ?_
                  refine Ex_goto 69 d_rm_kind_65 rfl ?_
                  refine Ex_istore [some (.ref 38), some (.int (J (e))), some (.int (J (t))), some (.int (bI (b))), some (.int (J (c))), some (.long (name)), none, some (.long (plS name 8 0)), none, some (.int ((J (e)) &&& (15 : Int32))), some (.int (1))] d_rm_kind_69 (Nat.le_of_ble_eq_true rfl) rfl ?_
                  exact hJ1 true ⟨fun _ => by omega, fun _ => rfl⟩
theorem ki_mayBe_s {S : mj_S} {h : mj_H} {e t c : Int} (he : -2147483648 ≤ e ∧ e < 2147483648) (ht : -2147483648 ≤ t ∧ t < 2147483648) (hc : -2147483648 ≤ c ∧ c < 2147483648) : Cl S ki_mayBe [.int (J e), .int (J t), .int (J c)] h (Pu (.int (bI (decide (okE e t c)))) h) := by
  show Ex S ki_mayBe 0 [some (.int (J (e))), some (.int (J (t))), some (.int (J (c))), none, none] [] h _
  refine Ex_iload_n d_ki_mayBe_0 rfl ?_
  refine Ex_if_ltZ (e) 21 d_ki_mayBe_1 rfl rfl (by omega) (fun hc1 => ?_) (fun hc1 => ?_)
  · refine Ex_iconst d_ki_mayBe_21 ic_0 ?_
    refine Ex_zreturn d_ki_mayBe_22 rfl (by decide) ?_
    exact Pu_f (by unfold okE; omega)
  · refine Ex_iload_n d_ki_mayBe_4 rfl ?_
    refine Ex_ldc pi_ki_35 d_ki_mayBe_5 ?_
    refine Ex_icmp_gtZ (e) ((65535)) 21 d_ki_mayBe_7 rfl rfl (by decide) (by omega) (by omega) (fun hc7 => ?_) (fun hc7 => ?_)
    · refine Ex_iconst d_ki_mayBe_21 ic_0 ?_
      refine Ex_zreturn d_ki_mayBe_22 rfl (by decide) ?_
      exact Pu_f (by unfold okE; omega)
    · refine Ex_iload_n d_ki_mayBe_10 rfl ?_
      refine Ex_if_ltZ (c) 21 d_ki_mayBe_11 rfl rfl (by omega) (fun hc11 => ?_) (fun hc11 => ?_)
      · refine Ex_iconst d_ki_mayBe_21 ic_0 ?_
        refine Ex_zreturn d_ki_mayBe_22 rfl (by decide) ?_
        exact Pu_f (by unfold okE; omega)
      · refine Ex_iload_n d_ki_mayBe_14 rfl ?_
        refine Ex_sipush d_ki_mayBe_15 sp_1000 ?_
        refine Ex_icmp_leZ (c) ((1000)) 23 d_ki_mayBe_18 rfl rfl (by decide) (by omega) (by omega) (fun hc18 => ?_) (fun hc18 => ?_)
        · refine Ex_iload_n d_ki_mayBe_23 rfl ?_
          refine Ex_sipush d_ki_mayBe_24 sp_255 ?_
          refine Ex_iand d_ki_mayBe_27 ?_
          refine Ex_iload_n d_ki_mayBe_28 rfl ?_
          refine Ex_bipush d_ki_mayBe_29 bp_8 ?_
          refine Ex_ishr d_ki_mayBe_31 ?_
          refine Ex_icmp_ne 39 d_ki_mayBe_32 rfl (fun hc32 => ?_) (fun hc32 => ?_)
          · have hq : ¬ e % 256 = e / 256 := fun z => hc32 ((q255 (by omega) (by omega)).mpr z)
            refine Ex_iconst d_ki_mayBe_39 ic_0 ?_
            refine Ex_istore_n [some (.int (J (e))), some (.int (J (t))), some (.int (J (c))), some (.int (0)), none] d_ki_mayBe_40 (Nat.le_of_ble_eq_true rfl) rfl ?_
            refine Ex_iload_n d_ki_mayBe_41 rfl ?_
            refine Ex_if_eqN (0) 62 d_ki_mayBe_42 rfl rfl (by omega) (fun hc42 => ?_) (fun hc42 => ?_)
            · refine Ex_iconst d_ki_mayBe_62 ic_0 ?_
              refine Ex_istore [some (.int (J (e))), some (.int (J (t))), some (.int (J (c))), some (.int (0)), some (.int (0))] d_ki_mayBe_63 (Nat.le_of_ble_eq_true rfl) rfl ?_
              refine Ex_iload_n d_ki_mayBe_65 rfl ?_
              refine Ex_iconst d_ki_mayBe_66 ic_4 ?_
              refine Ex_icmp_eqZ (t) ((4)) 89 d_ki_mayBe_67 rfl rfl (by decide) (by omega) (by omega) (fun hc67 => ?_) (fun hc67 => ?_)
              · refine Ex_iconst d_ki_mayBe_89 ic_1 ?_
                refine Ex_goto 94 d_ki_mayBe_90 rfl ?_
                refine Ex_zreturn d_ki_mayBe_94 rfl (by decide) ?_
                exact Pu_t (by unfold okE; omega)
              · refine Ex_iload_n d_ki_mayBe_70 rfl ?_
                refine Ex_iconst d_ki_mayBe_71 ic_2 ?_
                refine Ex_icmp_neZ (t) ((2)) 79 d_ki_mayBe_72 rfl rfl (by decide) (by omega) (by omega) (fun hc72 => ?_) (fun hc72 => ?_)
                · refine Ex_iload_n d_ki_mayBe_79 rfl ?_
                  refine Ex_iconst d_ki_mayBe_80 ic_1 ?_
                  refine Ex_icmp_neZ (t) ((1)) 93 d_ki_mayBe_81 rfl rfl (by decide) (by omega) (by omega) (fun hc81 => ?_) (fun hc81 => ?_)
                  · refine Ex_iconst d_ki_mayBe_93 ic_0 ?_
                    refine Ex_zreturn d_ki_mayBe_94 rfl (by decide) ?_
                    exact Pu_f (by unfold okE; omega)
                  · refine Ex_iload d_ki_mayBe_84 rfl ?_
                    refine Ex_if_eqN (0) 93 d_ki_mayBe_86 rfl rfl (by omega) (fun hc86 => ?_) (fun hc86 => ?_)
                    · refine Ex_iconst d_ki_mayBe_93 ic_0 ?_
                      refine Ex_zreturn d_ki_mayBe_94 rfl (by decide) ?_
                      exact Pu_f (by unfold okE; omega)
                    · exact absurd hc86 (by decide)
                · refine Ex_iload_n d_ki_mayBe_75 rfl ?_
                  refine Ex_if_neN (0) 89 d_ki_mayBe_76 rfl rfl (by omega) (fun hc76 => ?_) (fun hc76 => ?_)
                  · exact absurd hc76 (by decide)
                  · refine Ex_iload_n d_ki_mayBe_79 rfl ?_
                    refine Ex_iconst d_ki_mayBe_80 ic_1 ?_
                    refine Ex_icmp_neZ (t) ((1)) 93 d_ki_mayBe_81 rfl rfl (by decide) (by omega) (by omega) (fun hc81 => ?_) (fun hc81 => ?_)
                    · refine Ex_iconst d_ki_mayBe_93 ic_0 ?_
                      refine Ex_zreturn d_ki_mayBe_94 rfl (by decide) ?_
                      exact Pu_f (by unfold okE; omega)
                    · refine Ex_iload d_ki_mayBe_84 rfl ?_
                      refine Ex_if_eqN (0) 93 d_ki_mayBe_86 rfl rfl (by omega) (fun hc86 => ?_) (fun hc86 => ?_)
                      · refine Ex_iconst d_ki_mayBe_93 ic_0 ?_
                        refine Ex_zreturn d_ki_mayBe_94 rfl (by decide) ?_
                        exact Pu_f (by unfold okE; omega)
                      · exact absurd hc86 (by decide)
            · exact absurd hc42 (by decide)
          · have hq := (q255 (show 0 ≤ e by omega) (by omega)).mp hc32
            refine Ex_iconst d_ki_mayBe_35 ic_1 ?_
            refine Ex_goto 40 d_ki_mayBe_36 rfl ?_
            refine Ex_istore_n [some (.int (J (e))), some (.int (J (t))), some (.int (J (c))), some (.int (1)), none] d_ki_mayBe_40 (Nat.le_of_ble_eq_true rfl) rfl ?_
            refine Ex_iload_n d_ki_mayBe_41 rfl ?_
            refine Ex_if_eqN (1) 62 d_ki_mayBe_42 rfl rfl (by omega) (fun hc42 => ?_) (fun hc42 => ?_)
            · exact absurd hc42 (by decide)
            · refine Ex_iload_n d_ki_mayBe_45 rfl ?_
              refine Ex_bipush d_ki_mayBe_46 bp_15 ?_
              refine Ex_iand d_ki_mayBe_48 ?_
              refine Ex_iload_n d_ki_mayBe_49 rfl ?_
              refine Ex_iconst d_ki_mayBe_50 ic_4 ?_
              refine Ex_ishr d_ki_mayBe_51 ?_
              refine Ex_bipush d_ki_mayBe_52 bp_15 ?_
              refine Ex_iand d_ki_mayBe_54 ?_
              refine Ex_icmp_ne 62 d_ki_mayBe_55 rfl (fun hc55 => ?_) (fun hc55 => ?_)
              · have hq2 : ¬ e % 16 = e / 16 % 16 := fun z => hc55 ((q15 (by omega) (by omega)).mpr z)
                refine Ex_iconst d_ki_mayBe_62 ic_0 ?_
                refine Ex_istore [some (.int (J (e))), some (.int (J (t))), some (.int (J (c))), some (.int (1)), some (.int (0))] d_ki_mayBe_63 (Nat.le_of_ble_eq_true rfl) rfl ?_
                refine Ex_iload_n d_ki_mayBe_65 rfl ?_
                refine Ex_iconst d_ki_mayBe_66 ic_4 ?_
                refine Ex_icmp_eqZ (t) ((4)) 89 d_ki_mayBe_67 rfl rfl (by decide) (by omega) (by omega) (fun hc67 => ?_) (fun hc67 => ?_)
                · refine Ex_iconst d_ki_mayBe_89 ic_1 ?_
                  refine Ex_goto 94 d_ki_mayBe_90 rfl ?_
                  refine Ex_zreturn d_ki_mayBe_94 rfl (by decide) ?_
                  exact Pu_t (by unfold okE; omega)
                · refine Ex_iload_n d_ki_mayBe_70 rfl ?_
                  refine Ex_iconst d_ki_mayBe_71 ic_2 ?_
                  refine Ex_icmp_neZ (t) ((2)) 79 d_ki_mayBe_72 rfl rfl (by decide) (by omega) (by omega) (fun hc72 => ?_) (fun hc72 => ?_)
                  · refine Ex_iload_n d_ki_mayBe_79 rfl ?_
                    refine Ex_iconst d_ki_mayBe_80 ic_1 ?_
                    refine Ex_icmp_neZ (t) ((1)) 93 d_ki_mayBe_81 rfl rfl (by decide) (by omega) (by omega) (fun hc81 => ?_) (fun hc81 => ?_)
                    · refine Ex_iconst d_ki_mayBe_93 ic_0 ?_
                      refine Ex_zreturn d_ki_mayBe_94 rfl (by decide) ?_
                      exact Pu_f (by unfold okE; omega)
                    · refine Ex_iload d_ki_mayBe_84 rfl ?_
                      refine Ex_if_eqN (0) 93 d_ki_mayBe_86 rfl rfl (by omega) (fun hc86 => ?_) (fun hc86 => ?_)
                      · refine Ex_iconst d_ki_mayBe_93 ic_0 ?_
                        refine Ex_zreturn d_ki_mayBe_94 rfl (by decide) ?_
                        exact Pu_f (by unfold okE; omega)
                      · exact absurd hc86 (by decide)
                  · refine Ex_iload_n d_ki_mayBe_75 rfl ?_
                    refine Ex_if_neN (1) 89 d_ki_mayBe_76 rfl rfl (by omega) (fun hc76 => ?_) (fun hc76 => ?_)
                    · refine Ex_iconst d_ki_mayBe_89 ic_1 ?_
                      refine Ex_goto 94 d_ki_mayBe_90 rfl ?_
                      refine Ex_zreturn d_ki_mayBe_94 rfl (by decide) ?_
                      exact Pu_t (by unfold okE; omega)
                    · exact absurd hc76 (by decide)
              · have hq2 := (q15 (show 0 ≤ e by omega) (by omega)).mp hc55
                refine Ex_iconst d_ki_mayBe_58 ic_1 ?_
                refine Ex_goto 63 d_ki_mayBe_59 rfl ?_
                refine Ex_istore [some (.int (J (e))), some (.int (J (t))), some (.int (J (c))), some (.int (1)), some (.int (1))] d_ki_mayBe_63 (Nat.le_of_ble_eq_true rfl) rfl ?_
                refine Ex_iload_n d_ki_mayBe_65 rfl ?_
                refine Ex_iconst d_ki_mayBe_66 ic_4 ?_
                refine Ex_icmp_eqZ (t) ((4)) 89 d_ki_mayBe_67 rfl rfl (by decide) (by omega) (by omega) (fun hc67 => ?_) (fun hc67 => ?_)
                · refine Ex_iconst d_ki_mayBe_89 ic_1 ?_
                  refine Ex_goto 94 d_ki_mayBe_90 rfl ?_
                  refine Ex_zreturn d_ki_mayBe_94 rfl (by decide) ?_
                  exact Pu_t (by unfold okE; omega)
                · refine Ex_iload_n d_ki_mayBe_70 rfl ?_
                  refine Ex_iconst d_ki_mayBe_71 ic_2 ?_
                  refine Ex_icmp_neZ (t) ((2)) 79 d_ki_mayBe_72 rfl rfl (by decide) (by omega) (by omega) (fun hc72 => ?_) (fun hc72 => ?_)
                  · refine Ex_iload_n d_ki_mayBe_79 rfl ?_
                    refine Ex_iconst d_ki_mayBe_80 ic_1 ?_
                    refine Ex_icmp_neZ (t) ((1)) 93 d_ki_mayBe_81 rfl rfl (by decide) (by omega) (by omega) (fun hc81 => ?_) (fun hc81 => ?_)
                    · refine Ex_iconst d_ki_mayBe_93 ic_0 ?_
                      refine Ex_zreturn d_ki_mayBe_94 rfl (by decide) ?_
                      exact Pu_f (by unfold okE; omega)
                    · refine Ex_iload d_ki_mayBe_84 rfl ?_
                      refine Ex_if_eqN (1) 93 d_ki_mayBe_86 rfl rfl (by omega) (fun hc86 => ?_) (fun hc86 => ?_)
                      · exact absurd hc86 (by decide)
                      · refine Ex_iconst d_ki_mayBe_89 ic_1 ?_
                        refine Ex_goto 94 d_ki_mayBe_90 rfl ?_
                        refine Ex_zreturn d_ki_mayBe_94 rfl (by decide) ?_
                        exact Pu_t (by unfold okE; omega)
                  · refine Ex_iload_n d_ki_mayBe_75 rfl ?_
                    refine Ex_if_neN (1) 89 d_ki_mayBe_76 rfl rfl (by omega) (fun hc76 => ?_) (fun hc76 => ?_)
                    · refine Ex_iconst d_ki_mayBe_89 ic_1 ?_
                      refine Ex_goto 94 d_ki_mayBe_90 rfl ?_
                      refine Ex_zreturn d_ki_mayBe_94 rfl (by decide) ?_
                      exact Pu_t (by unfold okE; omega)
                    · exact absurd hc76 (by decide)
        · refine Ex_iconst d_ki_mayBe_21 ic_0 ?_
          refine Ex_zreturn d_ki_mayBe_22 rfl (by decide) ?_
          exact Pu_f (by unfold okE; omega)
theorem ki_add_s {S : mj_S} {h : mj_H} (hs : HT h) {K : SK} (hK : KC K h) (hO : KO K) (hn : K.1 < 40) (E T C : Nat) (b : Bool) (x : Int64) : Cl S ki_add [.ref 1, .int (nI (E)), .int (nI (T)), .int (bI (b)), .int (nI (C)), .long (x)] h (fun r h' => r = some (.int (nI K.1)) ∧ KC (pushK K E T C b x) h' ∧ Fr WKC h h') := by
  show Ex S ki_add 0 [some (.ref 1), some (.int (nI (E))), some (.int (nI (T))), some (.int (bI (b))), some (.int (nI (C))), some (.long (x)), none] [] h _
  refine Ex_aload_n d_ki_add_0 rfl ?_
  refine Ex_pV0 d_ki_add_1 pk_ki_add_40 (t_1 hs) (ki_isFull_s hs hK hO) ?_
  refine Ex_if_eqB (decide (40 ≤ K.1)) 9 d_ki_add_4 rfl rfl (fun hc4 => ?_) (fun hc4 => ?_)
  · rw [decide_eq_false_iff_not] at hc4
    refine Ex_aload_n d_ki_add_9 rfl ?_
    refine Ex_getR d_ki_add_10 pf_ki_11 rfl (t_1 hs) (r_1_1 hs) ?_
    refine Ex_aload_n d_ki_add_13 rfl ?_
    refine Ex_getIE d_ki_add_14 pf_ki_36 rfl (t_1 hs) hK.1 ?_
    refine Ex_iload_n d_ki_add_17 rfl ?_
    refine Ex_iastoreN (a := K.1) d_ki_add_18 (t_2 hs) rfl (by omega) (by decide) ?_
    refine Ex_aload_n d_ki_add_19 rfl ?_
    refine Ex_getR d_ki_add_20 pf_ki_15 rfl (t_1 hs) (r_1_2 hs) ?_
    refine Ex_aload_n d_ki_add_23 rfl ?_
    refine Ex_getIE d_ki_add_24 pf_ki_36 rfl (t_1 hs) hK.1 ?_
    refine Ex_iload_n d_ki_add_27 rfl ?_
    refine Ex_iastoreN (a := K.1) d_ki_add_28 (t_3 hs) rfl (by omega) (by decide) ?_
    refine Ex_aload_n d_ki_add_29 rfl ?_
    refine Ex_getR d_ki_add_30 pf_ki_18 rfl (t_1 hs) (r_1_3 hs) ?_
    refine Ex_aload_n d_ki_add_33 rfl ?_
    refine Ex_getIE d_ki_add_34 pf_ki_36 rfl (t_1 hs) hK.1 ?_
    refine Ex_iload_n d_ki_add_37 rfl ?_
    refine Ex_bastoreN (a := K.1) d_ki_add_38 (t_4 hs) rfl (by omega) (by decide) (bI_01 _) ?_
    refine Ex_aload_n d_ki_add_39 rfl ?_
    refine Ex_getR d_ki_add_40 pf_ki_22 rfl (t_1 hs) (r_1_4 hs) ?_
    refine Ex_aload_n d_ki_add_43 rfl ?_
    refine Ex_getIE d_ki_add_44 pf_ki_36 rfl (t_1 hs) hK.1 ?_
    refine Ex_iload d_ki_add_47 rfl ?_
    refine Ex_iastoreN (a := K.1) d_ki_add_49 (t_5 hs) rfl (by omega) (by decide) ?_
    refine Ex_aload_n d_ki_add_50 rfl ?_
    refine Ex_getR d_ki_add_51 pf_ki_25 rfl (t_1 hs) (r_1_5 hs) ?_
    refine Ex_aload_n d_ki_add_54 rfl ?_
    refine Ex_getIE d_ki_add_55 pf_ki_36 rfl (t_1 hs) hK.1 ?_
    refine Ex_lload d_ki_add_58 rfl ?_
    refine Ex_lastoreN (a := K.1) d_ki_add_60 (t_6 hs) rfl (by omega) (by decide) ?_
    refine Ex_aload_n d_ki_add_61 rfl ?_
    refine Ex_dup rfl d_ki_add_62 ?_
    refine Ex_getIE d_ki_add_63 pf_ki_36 rfl (t_1 hs) hK.1 ?_
    refine Ex_iconst d_ki_add_66 ic_1 ?_
    refine Ex_iaddN (K.1) (1) d_ki_add_67 rfl rfl ?_
    refine Ex_putI d_ki_add_68 pf_ki_36 (Or.inl rfl) (t_1 hs) (Or.inl rfl) ?_
    refine Ex_aload_n d_ki_add_71 rfl ?_
    refine Ex_getIE d_ki_add_72 pf_ki_36 rfl (t_1 hs) rfl ?_
    refine Ex_iconst d_ki_add_75 ic_1 ?_
    refine Ex_isubN (K.1 + 1) (1) d_ki_add_76 rfl rfl (by omega) ?_
    refine Ex_ireturn d_ki_add_77 rfl ?_
    refine ⟨by rw [show K.1 + 1 - 1 = K.1 by omega], ?_, ?_⟩
    · exact KC_push hK _ _ _ _ _ rfl rfl rfl rfl rfl rfl
    · refine Fr.sI (Fr.sL (Fr.sI (Fr.sI (Fr.sI (Fr.sI Fr.rf ?_) ?_) ?_) ?_) ?_) ?_ <;> (unfold WKC; omega)
  · rw [decide_eq_true_eq] at hc4; exfalso; omega
theorem to_kind_s {S : mj_S} {h : mj_H} (hs : HT h) {K : SK} (hK : KC K h) (hO : KO K) {e t c : Int} (he : -2147483648 ≤ e ∧ e < 2147483648) (ht : -2147483648 ≤ t ∧ t < 2147483648) (hc : -2147483648 ≤ c ∧ c < 2147483648) (b : Bool) (name : Int64) : Cl S to_kind [.ref 0, .int (J e), .int (J t), .int (bI b), .int (J c), .long name] h (fun r h' => r = some (.int (J (kindS K e t c (plS name 8 0)))) ∧ KC (kindK K e t c b (plS name 8 0)) h' ∧ Fr WKC h h') := by
  have hn40 := hO.1
  have hnr : -1 ≤ nameS K (plS name 8 0) ∧ nameS K (plS name 8 0) < (0 + K.1 : Nat) := nmF_r (kN K) (plS name 8 0) K.1 0
  show Ex S to_kind 0 [some (.ref 0), some (.int (J (e))), some (.int (J (t))), some (.int (bI (b))), some (.int (J (c))), some (.long (name)), none, none, none] [] h _
  refine Ex_lload d_to_kind_0 rfl ?_
  refine Ex_pS1 d_to_kind_2 pk_to_kind_90 (ki_lettersOf_s name) ?_
  refine Ex_lstore [some (.ref 0), some (.int (J (e))), some (.int (J (t))), some (.int (bI (b))), some (.int (J (c))), some (.long (name)), none, some (.long (plS name 8 0)), none] d_to_kind_5 (Nat.le_of_ble_eq_true rfl) rfl ?_
  refine Ex_iload_n d_to_kind_7 rfl ?_
  refine Ex_iload_n d_to_kind_8 rfl ?_
  refine Ex_iload d_to_kind_9 rfl ?_
  refine Ex_pS3 d_to_kind_11 pk_to_kind_94 (ki_mayBe_s he ht hc) ?_
  refine Ex_if_eqB (decide (okE e t c)) 34 d_to_kind_14 rfl rfl (fun hc14 => ?_) (fun hc14 => ?_)
  · rw [decide_eq_false_iff_not] at hc14
    refine Ex_iconst d_to_kind_34 ic_m1 ?_
    refine Ex_ireturn d_to_kind_35 rfl ?_
    have hno : ¬ okK K e t c (plS name 8 0) := by
      rintro ⟨z1, z2, z3, z4⟩
      first | contradiction | omega
    exact ⟨by unfold kindS; rw [if_neg hno]; rfl, by unfold kindK; rw [if_neg hno]; exact hK, Fr.rf⟩
  · rw [decide_eq_true_eq] at hc14
    refine Ex_lload d_to_kind_17 rfl ?_
    refine Ex_lconst d_to_kind_19 lc_0 ?_
    refine Ex_lcmp d_to_kind_20 ?_
    refine Ex_if_eqL 34 d_to_kind_21 rfl (fun hc21 => ?_) (fun hc21 => ?_)
    · refine Ex_iconst d_to_kind_34 ic_m1 ?_
      refine Ex_ireturn d_to_kind_35 rfl ?_
      have hno : ¬ okK K e t c (plS name 8 0) := by
        rintro ⟨z1, z2, z3, z4⟩
        first | contradiction | omega
      exact ⟨by unfold kindS; rw [if_neg hno]; rfl, by unfold kindK; rw [if_neg hno]; exact hK, Fr.rf⟩
    · refine Ex_aload_n d_to_kind_24 rfl ?_
      refine Ex_getR d_to_kind_25 pf_to_20 rfl (t_0 hs) (r_0_0 hs) ?_
      refine Ex_pV0 d_to_kind_28 pk_to_kind_98 (t_1 hs) (ki_isFull_s hs hK hO) ?_
      refine Ex_if_eqB (decide (40 ≤ K.1)) 36 d_to_kind_31 rfl rfl (fun hc31 => ?_) (fun hc31 => ?_)
      · rw [decide_eq_false_iff_not] at hc31
        refine Ex_aload_n d_to_kind_36 rfl ?_
        refine Ex_getR d_to_kind_37 pf_to_20 rfl (t_0 hs) (r_0_0 hs) ?_
        refine Ex_lload d_to_kind_40 rfl ?_
        refine Ex_pV1 d_to_kind_42 pk_to_kind_102 (t_1 hs) (ki_withLetters_s hs hK hO _) ?_
        refine Ex_iconst d_to_kind_45 ic_m1 ?_
        refine Ex_icmp_neZ (nameS K (plS name 8 0)) ((-1)) 66 d_to_kind_46 rfl rfl (by decide) (by omega) (by omega) (fun hc46 => ?_) (fun hc46 => ?_)
        · refine Ex_iconst d_to_kind_66 ic_m1 ?_
          refine Ex_ireturn d_to_kind_67 rfl ?_
          have hno : ¬ okK K e t c (plS name 8 0) := by
            rintro ⟨z1, z2, z3, z4⟩
            first | contradiction | omega
          exact ⟨by unfold kindS; rw [if_neg hno]; rfl, by unfold kindK; rw [if_neg hno]; exact hK, Fr.rf⟩
        · have hok : okK K e t c (plS name 8 0) := ⟨by omega, by assumption, by assumption, by omega⟩
          refine Ex_aload_n d_to_kind_49 rfl ?_
          refine Ex_getR d_to_kind_50 pf_to_20 rfl (t_0 hs) (r_0_0 hs) ?_
          have e1 := hok.2.1.1
          have e2 : 0 ≤ t := by have := hok.2.1; unfold okE at this; omega
          have e3 : 0 ≤ c := by have := hok.2.1; unfold okE at this; omega
          rw [J_pos e1, J_pos e2, J_pos e3]
          refine Ex_iload_n d_to_kind_53 rfl ?_
          refine Ex_iload_n d_to_kind_54 rfl ?_
          refine Ex_iload_n d_to_kind_55 rfl ?_
          refine Ex_iload d_to_kind_56 rfl ?_
          refine Ex_lload d_to_kind_58 rfl ?_
          refine Ex_cV5 d_to_kind_60 pk_to_kind_106 (t_1 hs) (ki_add_s hs hK hO (by omega) e.toNat t.toNat c.toNat b (plS name 8 0)) ?_
          rintro r h1 ⟨rfl, hK1, hF1⟩
          show Ex S to_kind 63 [some (.ref 0), some (.int (nI (e.toNat))), some (.int (nI (t.toNat))), some (.int (bI (b))), some (.int (nI (c.toNat))), some (.long (name)), none, some (.long (plS name 8 0)), none] [.int (nI (K.1))] h1 _
          refine Ex_goto 67 d_to_kind_63 rfl ?_
          refine Ex_ireturn d_to_kind_67 rfl ?_
          exact ⟨by unfold kindS; rw [if_pos hok, nIJ], by unfold kindK; rw [if_pos hok]; exact hK1, hF1⟩
      · rw [decide_eq_true_eq] at hc31
        refine Ex_iconst d_to_kind_34 ic_m1 ?_
        refine Ex_ireturn d_to_kind_35 rfl ?_
        have hno : ¬ okK K e t c (plS name 8 0) := by
          rintro ⟨z1, z2, z3, z4⟩
          first | contradiction | omega
        exact ⟨by unfold kindS; rw [if_neg hno]; rfl, by unfold kindK; rw [if_neg hno]; exact hK, Fr.rf⟩
