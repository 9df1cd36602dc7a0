/-! The reference: grown, grow. -/
theorem rm_grown_L3 {S : mj_S} {Q : Option Value → mj_H → Prop} {h : mj_H} (hs : HT h) {K : SK} (hK : KM K h) (hO : KO K) {R : SR} (hR : RM R h) (hRO : RO K.1 R) {r : Nat} (hr : r < R.1) {l : LV} (hl : LO K.1 l) {sd : Nat} (hsd : sd ≤ 1) (hW : WL sd l h) (hmr : gN l * rR R r ≤ 60) {i : Nat} (hi : i < gN l) (hoi : gL l i * rC R r ≤ 60 ∧ -30 ≤ gO l i * rC R r ∧ gO l i * rC R r ≤ 30)
    (kx : ∀ h1 : mj_H, ((Fr Wgw h h1 ∧ WL sd l h1 ∧ (∀ x, x < i * rR R r → mI h1 60 (60 * (1 - sd) + x) = nI (gL (lvS K R r l) x) ∧ mI h1 61 (60 * (1 - sd) + x) = J (gO (lvS K R r l) x) ∧ ∀ k, k < gL (lvS K R r l) x → mI h1 59 (60 * (60 * (1 - sd) + x) + k) = eM (gX (lvS K R r l) x k))) ∧ (∀ a, a < rR R r → ∀ x, x < (gL l i) * rC R r → mI h1 59 (60 * (60 * (1 - sd) + (i * rR R r + a)) + x) = eM (gX (lvS K R r l) (i * rR R r + a) x)) ∧ ∀ y, y < rR R r → mI h1 60 (60 * (1 - sd) + (i * rR R r + y)) = nI (gL (lvS K R r l) (i * rR R r + y)) ∧ mI h1 61 (60 * (1 - sd) + (i * rR R r + y)) = J (gO (lvS K R r l) (i * rR R r + y))) → Ex S rm_grown 286 [some (.ref 38), some (.int (nI (r))), some (.int (nI (sd))), some (.int (nI (gN l))), some (.int (nI (rR R r))), some (.int (nI (rC R r))), some (.int (nI (i))), some (.int (nI (60 * sd + i))), some (.int (J (gO l i * ((rC R r : Nat) : Int)))), some (.int (nI (rR R r))), none, none, none] [] h1 Q) : ∀ d a : Nat, a + d = rR R r → ∀ h1 : mj_H, ((Fr Wgw h h1 ∧ WL sd l h1 ∧ (∀ x, x < i * rR R r → mI h1 60 (60 * (1 - sd) + x) = nI (gL (lvS K R r l) x) ∧ mI h1 61 (60 * (1 - sd) + x) = J (gO (lvS K R r l) x) ∧ ∀ k, k < gL (lvS K R r l) x → mI h1 59 (60 * (60 * (1 - sd) + x) + k) = eM (gX (lvS K R r l) x k))) ∧ (∀ a, a < rR R r → ∀ x, x < (gL l i) * rC R r → mI h1 59 (60 * (60 * (1 - sd) + (i * rR R r + a)) + x) = eM (gX (lvS K R r l) (i * rR R r + a) x)) ∧ ∀ y, y < a → mI h1 60 (60 * (1 - sd) + (i * rR R r + y)) = nI (gL (lvS K R r l) (i * rR R r + y)) ∧ mI h1 61 (60 * (1 - sd) + (i * rR R r + y)) = J (gO (lvS K R r l) (i * rR R r + y))) → Ex S rm_grown 230 [some (.ref 38), some (.int (nI (r))), some (.int (nI (sd))), some (.int (nI (gN l))), some (.int (nI (rR R r))), some (.int (nI (rC R r))), some (.int (nI (i))), some (.int (nI (60 * sd + i))), some (.int (J (gO l i * ((rC R r : Nat) : Int)))), some (.int (nI (a))), none, none, none] [] h1 Q := by
  obtain ⟨hz1, hz2⟩ := hRO.2 r hr
  have h40 := hO.1
  have h8 := hRO.1
  have hl60 := hl.1
  have hli := (hl.2 i hi).1
  have hir : i * rR R r + rR R r ≤ 60 := by have := Nat.mul_le_mul_right (rR R r) (show i + 1 ≤ gN l by omega); rw [Nat.add_mul, Nat.one_mul] at this; omega
  have hcm1 : rR R r * i = i * rR R r := Nat.mul_comm _ _
  intro d
  induction d with
  | zero =>
    intro a hkk h1 hI
    obtain rfl : rR R r = a := by omega
    refine Ex_iload d_rm_grown_230 rfl ?_
    refine Ex_iload d_rm_grown_232 rfl ?_
    refine Ex_icmp_geN (rR R r) (rR R r) 286 d_rm_grown_234 rfl rfl rfl (by omega) (by omega) (fun hc234 => ?_) (fun hc234 => ?_)
    · exact kx h1 hI
    · exfalso; omega
  | succ d ih =>
    intro a hkk h1 hI
    have f1 := hI.1.1
    have hs1 : HT h1 := f1.ht hs Wgw_st
    have hK1 := KM_g hs f1 hK
    have hR1 := RM_g hs f1 hR
    refine Ex_iload d_rm_grown_230 rfl ?_
    refine Ex_iload d_rm_grown_232 rfl ?_
    refine Ex_icmp_geN (a) (rR R r) 286 d_rm_grown_234 rfl rfl rfl (by omega) (by omega) (fun hc234 => ?_) (fun hc234 => ?_)
    · exfalso; omega
    · refine Ex_bipush d_rm_grown_237 bp_60 ?_
      refine Ex_iconst d_rm_grown_239 ic_1 ?_
      refine Ex_iload_n d_rm_grown_240 rfl ?_
      refine Ex_isubN (1) (sd) d_rm_grown_241 rfl rfl (by omega) ?_
      refine Ex_imulN (60) (1 - sd) d_rm_grown_242 rfl rfl ?_
      refine Ex_iload d_rm_grown_243 rfl ?_
      refine Ex_iload d_rm_grown_245 rfl ?_
      refine Ex_imulN (rR R r) (i) d_rm_grown_247 rfl rfl ?_
      refine Ex_iaddN (60 * (1 - sd)) ((rR R r) * i) d_rm_grown_248 rfl rfl ?_
      refine Ex_iload d_rm_grown_249 rfl ?_
      refine Ex_iaddN ((60 * (1 - sd)) + ((rR R r) * i)) (a) d_rm_grown_251 rfl rfl ?_
      refine Ex_istore [some (.ref 38), some (.int (nI (r))), some (.int (nI (sd))), some (.int (nI (gN l))), some (.int (nI (rR R r))), some (.int (nI (rC R r))), some (.int (nI (i))), some (.int (nI (60 * sd + i))), some (.int (J (gO l i * ((rC R r : Nat) : Int)))), some (.int (nI (a))), some (.int (nI (((60 * (1 - sd)) + ((rR R r) * i)) + a))), none, none] d_rm_grown_252 (Nat.le_of_ble_eq_true rfl) rfl ?_
      refine Ex_aload_n d_rm_grown_254 rfl ?_
      refine Ex_getR (v := .ref 60) d_rm_grown_255 pf_rm_76 rfl (t_38 hs1) (r_38_31 hs1) ?_
      refine Ex_iload d_rm_grown_258 rfl ?_
      refine Ex_aload_n d_rm_grown_260 rfl ?_
      refine Ex_getR (v := .ref 60) d_rm_grown_261 pf_rm_76 rfl (t_38 hs1) (r_38_31 hs1) ?_
      refine Ex_iload d_rm_grown_264 rfl ?_
      refine Ex_ialoadN (a := 60 * sd + i) (y := (nI (gL l i))) d_rm_grown_266 (t_60 hs1) rfl (by omega) (by decide) (hI.1.2.1 i hi).1 ?_
      refine Ex_iload d_rm_grown_267 rfl ?_
      refine Ex_imulN (gL l i) (rC R r) d_rm_grown_269 rfl rfl ?_
      refine Ex_iastoreN (a := ((60 * (1 - sd)) + ((rR R r) * i)) + a) d_rm_grown_270 (t_60 hs1) rfl (by omega) (by decide) ?_
      refine Ex_aload_n d_rm_grown_271 rfl ?_
      refine Ex_getR (v := .ref 61) d_rm_grown_272 pf_rm_79 rfl (t_38 hs1) (r_38_32 hs1) ?_
      refine Ex_iload d_rm_grown_275 rfl ?_
      refine Ex_iload d_rm_grown_277 rfl ?_
      refine Ex_iastoreN (a := ((60 * (1 - sd)) + ((rR R r) * i)) + a) d_rm_grown_279 (t_61 hs1) rfl (by omega) (by decide) ?_
      refine Ex_iincN (a) 1 [some (.ref 38), some (.int (nI (r))), some (.int (nI (sd))), some (.int (nI (gN l))), some (.int (nI (rR R r))), some (.int (nI (rC R r))), some (.int (nI (i))), some (.int (nI (60 * sd + i))), some (.int (J (gO l i * ((rC R r : Nat) : Int)))), some (.int (nI (a + 1))), some (.int (nI (((60 * (1 - sd)) + ((rR R r) * i)) + a))), none, none] d_rm_grown_280 rfl rfl rfl rfl ?_
      refine Ex_goto 230 d_rm_grown_283 rfl ?_
      refine Ex_forget (ls' := [some (.ref 38), some (.int (nI (r))), some (.int (nI (sd))), some (.int (nI (gN l))), some (.int (nI (rR R r))), some (.int (nI (rC R r))), some (.int (nI (i))), some (.int (nI (60 * sd + i))), some (.int (J (gO l i * ((rC R r : Nat) : Int)))), some (.int (nI (a + 1))), none, none, none]) (sub_s (sub_s (sub_s (sub_s (sub_s (sub_s (sub_s (sub_s (sub_s (sub_s (sub_n (sub_n (sub_n sub_0))))))))))))) ?_
      have hidx : 60 * (1 - sd) + rR R r * i + a = 60 * (1 - sd) + (i * rR R r + a) := by rw [hcm1]; omega
      have hv1 : gL (lvS K R r l) (i * rR R r + a) = gL l i * rC R r := by show gL l ((i * rR R r + a) / rR R r) * rC R r = _; rw [(idx_dm (show a < rR R r by omega)).1]
      have hv2 : gO (lvS K R r l) (i * rR R r + a) = gO l i * rC R r := by show gO l ((i * rR R r + a) / rR R r) * rC R r = _; rw [(idx_dm (show a < rR R r by omega)).1]
      rw [hidx]
      refine ih (a + 1) (by omega) _ ⟨⟨Fr.sI (Fr.sI f1 (Or.inr (Or.inl rfl))) (Or.inr (Or.inr (Or.inl rfl))), fun x hx => ?_, fun x hx => ?_⟩, fun b hb x hx => ?_, fun y hy => ?_⟩
      · obtain ⟨z1, z2, z3⟩ := hI.1.2.1 x hx
        refine ⟨?_, ?_, fun y hy => ?_⟩
        · rw [mI_oth (Or.inl (by decide)), mI_oth (Or.inr (by omega))]; exact z1
        · rw [mI_oth (Or.inr (by omega)), mI_oth (Or.inl (by decide))]; exact z2
        · rw [mI_oth (Or.inl (by decide)), mI_oth (Or.inl (by decide))]; exact z3 y hy
      · obtain ⟨z1, z2, z3⟩ := hI.1.2.2 x hx
        refine ⟨?_, ?_, fun y hy => ?_⟩
        · rw [mI_oth (Or.inl (by decide)), mI_oth (Or.inr (by omega))]; exact z1
        · rw [mI_oth (Or.inr (by omega)), mI_oth (Or.inl (by decide))]; exact z2
        · rw [mI_oth (Or.inl (by decide)), mI_oth (Or.inl (by decide))]; exact z3 y hy
      · rw [mI_oth (Or.inl (by decide)), mI_oth (Or.inl (by decide))]
        exact hI.2.1 b hb x hx
      · by_cases hya : y = a
        · subst hya
          rw [mI_self, mI_oth (Or.inl (by decide)), mI_self, hv1, hv2]
          exact ⟨rfl, rfl⟩
        · rw [mI_oth (Or.inl (by decide)), mI_oth (Or.inr (by omega)), mI_oth (Or.inr (by omega)), mI_oth (Or.inl (by decide))]
          exact hI.2.2 y (by omega)
theorem rm_grown_L4 {S : mj_S} {Q : Option Value → mj_H → Prop} {h : mj_H} (hs : HT h) {K : SK} (hK : KM K h) (hO : KO K) {R : SR} (hR : RM R h) (hRO : RO K.1 R) {r : Nat} (hr : r < R.1) {l : LV} (hl : LO K.1 l) {sd : Nat} (hsd : sd ≤ 1) (hW : WL sd l h) (hmr : gN l * rR R r ≤ 60) (kz : ∀ h1 : mj_H, Fr Wgw h h1 → ¬ okLv R r l → Q (some (.int 0)) h1)
    (kx : ∀ h1 : mj_H, (Fr Wgw h h1 ∧ WL sd l h1 ∧ (∀ x, x < (gN l) * rR R r → mI h1 60 (60 * (1 - sd) + x) = nI (gL (lvS K R r l) x) ∧ mI h1 61 (60 * (1 - sd) + x) = J (gO (lvS K R r l) x) ∧ ∀ k, k < gL (lvS K R r l) x → mI h1 59 (60 * (60 * (1 - sd) + x) + k) = eM (gX (lvS K R r l) x k))) → (∀ x, x < gN l → okLr R r l x) → Ex S rm_grown 292 [some (.ref 38), some (.int (nI (r))), some (.int (nI (sd))), some (.int (nI (gN l))), some (.int (nI (rR R r))), some (.int (nI (rC R r))), some (.int (nI (gN l))), none, none, none, none, none, none] [] h1 Q) : ∀ d i : Nat, i + d = gN l → (∀ x, x < i → okLr R r l x) → ∀ h1 : mj_H, (Fr Wgw h h1 ∧ WL sd l h1 ∧ (∀ x, x < i * rR R r → mI h1 60 (60 * (1 - sd) + x) = nI (gL (lvS K R r l) x) ∧ mI h1 61 (60 * (1 - sd) + x) = J (gO (lvS K R r l) x) ∧ ∀ k, k < gL (lvS K R r l) x → mI h1 59 (60 * (60 * (1 - sd) + x) + k) = eM (gX (lvS K R r l) x k))) → Ex S rm_grown 30 [some (.ref 38), some (.int (nI (r))), some (.int (nI (sd))), some (.int (nI (gN l))), some (.int (nI (rR R r))), some (.int (nI (rC R r))), some (.int (nI (i))), none, none, none, none, none, none] [] h1 Q := by
  obtain ⟨hz1, hz2⟩ := hRO.2 r hr
  have h40 := hO.1
  have h8 := hRO.1
  have hl60 := hl.1
  intro d
  induction d with
  | zero =>
    intro i hii hev h1 hI
    obtain rfl : gN l = i := by omega
    refine Ex_iload d_rm_grown_30 rfl ?_
    refine Ex_iload_n d_rm_grown_32 rfl ?_
    refine Ex_icmp_geN (gN l) (gN l) 292 d_rm_grown_33 rfl rfl rfl (by omega) (by omega) (fun hc33 => ?_) (fun hc33 => ?_)
    · exact kx h1 hI hev
    · exfalso; omega
  | succ d ih =>
    intro i hii hev h1 hI
    have hi : i < gN l := by omega
    have f1 := hI.1
    have hs1 : HT h1 := f1.ht hs Wgw_st
    have hli := (hl.2 i hi).1
    obtain ⟨v1, v2, v3⟩ := hI.2.1 i hi
    have hb1 : gL l i * rC R r ≤ 60 * 4 := mul_le (by omega) (by omega)
    have hb2 : -120 ≤ gO l i * ((rC R r : Nat) : Int) ∧ gO l i * ((rC R r : Nat) : Int) ≤ 120 := by
      have c1 : rC R r = 1 ∨ rC R r = 2 ∨ rC R r = 3 ∨ rC R r = 4 := by omega
      rcases c1 with c1 | c1 | c1 | c1 <;> rw [c1] <;> omega
    refine Ex_iload d_rm_grown_30 rfl ?_
    refine Ex_iload_n d_rm_grown_32 rfl ?_
    refine Ex_icmp_geN (i) (gN l) 292 d_rm_grown_33 rfl rfl rfl (by omega) (by omega) (fun hc33 => ?_) (fun hc33 => ?_)
    · exfalso; omega
    · refine Ex_bipush d_rm_grown_36 bp_60 ?_
      refine Ex_iload_n d_rm_grown_38 rfl ?_
      refine Ex_imulN (60) (sd) d_rm_grown_39 rfl rfl ?_
      refine Ex_iload d_rm_grown_40 rfl ?_
      refine Ex_iaddN (60 * sd) (i) d_rm_grown_42 rfl rfl ?_
      refine Ex_istore [some (.ref 38), some (.int (nI (r))), some (.int (nI (sd))), some (.int (nI (gN l))), some (.int (nI (rR R r))), some (.int (nI (rC R r))), some (.int (nI (i))), some (.int (nI ((60 * sd) + i))), none, none, none, none, none] d_rm_grown_43 (Nat.le_of_ble_eq_true rfl) rfl ?_
      refine Ex_aload_n d_rm_grown_45 rfl ?_
      refine Ex_getR (v := .ref 61) d_rm_grown_46 pf_rm_79 rfl (t_38 hs1) (r_38_32 hs1) ?_
      refine Ex_iload d_rm_grown_49 rfl ?_
      refine Ex_ialoadN (a := (60 * sd) + i) (y := (J (gO l i))) d_rm_grown_51 (t_61 hs1) rfl (by omega) (by decide) v2 ?_
      refine Ex_iload d_rm_grown_52 rfl ?_
      refine Ex_imulZ (gO l i) (((rC R r : Nat) : Int)) d_rm_grown_54 rfl (nIJ _) ?_
      refine Ex_istore [some (.ref 38), some (.int (nI (r))), some (.int (nI (sd))), some (.int (nI (gN l))), some (.int (nI (rR R r))), some (.int (nI (rC R r))), some (.int (nI (i))), some (.int (nI ((60 * sd) + i))), some (.int (J ((gO l i) * (((rC R r : Nat) : Int))))), none, none, none, none] d_rm_grown_55 (Nat.le_of_ble_eq_true rfl) rfl ?_
      refine Ex_aload_n d_rm_grown_57 rfl ?_
      refine Ex_getR (v := .ref 60) d_rm_grown_58 pf_rm_76 rfl (t_38 hs1) (r_38_31 hs1) ?_
      refine Ex_iload d_rm_grown_61 rfl ?_
      refine Ex_ialoadN (a := (60 * sd) + i) (y := (nI (gL l i))) d_rm_grown_63 (t_60 hs1) rfl (by omega) (by decide) v1 ?_
      refine Ex_iload d_rm_grown_64 rfl ?_
      refine Ex_imulN (gL l i) (rC R r) d_rm_grown_66 rfl rfl ?_
      refine Ex_bipush d_rm_grown_67 bp_60 ?_
      refine Ex_icmp_gtN ((gL l i) * (rC R r)) (60) 86 d_rm_grown_69 rfl rfl rfl (by omega) (by omega) (fun hc69 => ?_) (fun hc69 => ?_)
      · refine Ex_iconst d_rm_grown_86 ic_0 ?_
        refine Ex_zreturn d_rm_grown_87 rfl (by decide) ?_
        exact kz h1 f1 (fun z => by have := (z.2 i hi).1; omega)
      · refine Ex_iload d_rm_grown_72 rfl ?_
        refine Ex_bipush d_rm_grown_74 bp_m30 ?_
        refine Ex_icmp_ltZ ((gO l i) * (((rC R r : Nat) : Int))) ((-30)) 86 d_rm_grown_76 rfl rfl (by decide) (by omega) (by omega) (fun hc76 => ?_) (fun hc76 => ?_)
        · refine Ex_iconst d_rm_grown_86 ic_0 ?_
          refine Ex_zreturn d_rm_grown_87 rfl (by decide) ?_
          exact kz h1 f1 (fun z => by have := (z.2 i hi).1; omega)
        · refine Ex_iload d_rm_grown_79 rfl ?_
          refine Ex_bipush d_rm_grown_81 bp_30 ?_
          refine Ex_icmp_leZ ((gO l i) * (((rC R r : Nat) : Int))) ((30)) 88 d_rm_grown_83 rfl rfl (by decide) (by omega) (by omega) (fun hc83 => ?_) (fun hc83 => ?_)
          · refine Ex_iconst d_rm_grown_88 ic_0 ?_
            refine Ex_istore [some (.ref 38), some (.int (nI (r))), some (.int (nI (sd))), some (.int (nI (gN l))), some (.int (nI (rR R r))), some (.int (nI (rC R r))), some (.int (nI (i))), some (.int (nI ((60 * sd) + i))), some (.int (J ((gO l i) * (((rC R r : Nat) : Int))))), some (.int (0)), none, none, none] d_rm_grown_89 (Nat.le_of_ble_eq_true rfl) rfl ?_
            refine rm_grown_L2 hs hK hO hR hRO hr hl hsd hW hmr hi (by omega) (fun x hx => (hev x hx).1) (fun h2 f2 hex => kz h2 f2 (fun z => ?_)) (fun h2 hI2 hod => ?_) (gL l i) 0 (by omega) (fun k hk => absurd hk (by omega)) h1 ⟨hI, fun a ha x hx => absurd hx (by omega)⟩
            · obtain ⟨k, hk, ho⟩ := hex
              exact (z.2 i hi).2 k hk ho
            · refine Ex_iconst d_rm_grown_227 ic_0 ?_
              refine Ex_istore [some (.ref 38), some (.int (nI (r))), some (.int (nI (sd))), some (.int (nI (gN l))), some (.int (nI (rR R r))), some (.int (nI (rC R r))), some (.int (nI (i))), some (.int (nI (60 * sd + i))), some (.int (J (gO l i * ((rC R r : Nat) : Int)))), some (.int (0)), none, none, none] d_rm_grown_228 (Nat.le_of_ble_eq_true rfl) rfl ?_
              refine rm_grown_L3 hs hK hO hR hRO hr hl hsd hW hmr hi (by omega) (fun h3 hI3 => ?_) (rR R r) 0 (by omega) h2 ⟨hI2.1, hI2.2, fun y hy => absurd hy (by omega)⟩
              refine Ex_iincN (i) 1 [some (.ref 38), some (.int (nI (r))), some (.int (nI (sd))), some (.int (nI (gN l))), some (.int (nI (rR R r))), some (.int (nI (rC R r))), some (.int (nI (i + 1))), some (.int (nI (60 * sd + i))), some (.int (J (gO l i * ((rC R r : Nat) : Int)))), some (.int (nI (rR R r))), none, none, none] d_rm_grown_286 rfl rfl rfl rfl ?_
              refine Ex_goto 30 d_rm_grown_289 rfl ?_
              refine Ex_forget (ls' := [some (.ref 38), some (.int (nI (r))), some (.int (nI (sd))), some (.int (nI (gN l))), some (.int (nI (rR R r))), some (.int (nI (rC R r))), some (.int (nI (i + 1))), none, none, none, none, none, none]) (sub_s (sub_s (sub_s (sub_s (sub_s (sub_s (sub_s (sub_n (sub_n (sub_n (sub_n (sub_n (sub_n sub_0))))))))))))) ?_
              refine ih (i + 1) (by omega) (fun x hx => ?_) h3 ⟨hI3.1.1, hI3.1.2.1, fun x hx => ?_⟩
              · by_cases hxi : x = i
                · rw [hxi]; exact ⟨by omega, hod⟩
                · exact hev x (by omega)
              · by_cases hxi : x < i * rR R r
                · exact hI3.1.2.2 x hxi
                · rw [Nat.add_mul, Nat.one_mul] at hx
                  have e1 : i * rR R r + (x - i * rR R r) = x := by omega
                  have z := hI3.2.2 (x - i * rR R r) (by omega)
                  rw [e1] at z
                  refine ⟨z.1, z.2, fun k hk => ?_⟩
                  have e2 : x / rR R r = i := by have q := (idx_dm (i := i) (j := x - i * rR R r) (C := rR R r) (by omega)).1; rw [e1] at q; exact q
                  have hk : k < gL l (x / rR R r) * rC R r := hk
                  rw [e2] at hk
                  have z2 := hI3.2.1 (x - i * rR R r) (by omega) k hk
                  rw [e1] at z2
                  exact z2
          · refine Ex_iconst d_rm_grown_86 ic_0 ?_
            refine Ex_zreturn d_rm_grown_87 rfl (by decide) ?_
            exact kz h1 f1 (fun z => by have := (z.2 i hi).1; omega)
theorem rm_grown_s {S : mj_S} {h : mj_H} (hs : HT h) {K : SK} (hK : KM K h) (hO : KO K) {R : SR} (hR : RM R h) (hRO : RO K.1 R) {r : Nat} (hr : r < R.1) {l : LV} (hl : LO K.1 l) {sd : Nat} (hsd : sd ≤ 1) (hW : WL sd l h) : Cl S rm_grown [.ref 38, .int (nI (r)), .int (nI (sd)), .int (nI (gN l))] h (fun rv h' => Fr Wgw h h' ∧ ((¬ okLv R r l ∧ rv = some (.int 0)) ∨ (okLv R r l ∧ rv = some (.int 1) ∧ WL (1 - sd) (lvS K R r l) h'))) := by
  show Ex S rm_grown 0 [some (.ref 38), some (.int (nI (r))), some (.int (nI (sd))), some (.int (nI (gN l))), none, none, none, none, none, none, none, none, none] [] h _
  obtain ⟨hz1, hz2⟩ := hRO.2 r hr
  have h40 := hO.1
  have h8 := hRO.1
  have hl60 := hl.1
  obtain ⟨hv1, hv2, hv3⟩ := hR.2 r hr
  have hm4 : gN l * rR R r ≤ 60 * 4 := mul_le (by omega) (by omega)
  refine Ex_aload_n d_rm_grown_0 rfl ?_
  refine Ex_getR (v := .ref 56) d_rm_grown_1 pf_rm_64 rfl (t_38 hs) (r_38_26 hs) ?_
  refine Ex_iload_n d_rm_grown_4 rfl ?_
  refine Ex_ialoadN (a := r) (y := (nI (rR R r))) d_rm_grown_5 (t_56 hs) rfl (by omega) (by decide) hv1 ?_
  refine Ex_istore [some (.ref 38), some (.int (nI (r))), some (.int (nI (sd))), some (.int (nI (gN l))), some (.int (nI (rR R r))), none, none, none, none, none, none, none, none] d_rm_grown_6 (Nat.le_of_ble_eq_true rfl) rfl ?_
  refine Ex_aload_n d_rm_grown_8 rfl ?_
  refine Ex_getR (v := .ref 57) d_rm_grown_9 pf_rm_67 rfl (t_38 hs) (r_38_27 hs) ?_
  refine Ex_iload_n d_rm_grown_12 rfl ?_
  refine Ex_ialoadN (a := r) (y := (nI (rC R r))) d_rm_grown_13 (t_57 hs) rfl (by omega) (by decide) hv2 ?_
  refine Ex_istore [some (.ref 38), some (.int (nI (r))), some (.int (nI (sd))), some (.int (nI (gN l))), some (.int (nI (rR R r))), some (.int (nI (rC R r))), none, none, none, none, none, none, none] d_rm_grown_14 (Nat.le_of_ble_eq_true rfl) rfl ?_
  refine Ex_iload_n d_rm_grown_16 rfl ?_
  refine Ex_iload d_rm_grown_17 rfl ?_
  refine Ex_imulN (gN l) (rR R r) d_rm_grown_19 rfl rfl ?_
  refine Ex_bipush d_rm_grown_20 bp_60 ?_
  refine Ex_icmp_leN ((gN l) * (rR R r)) (60) 27 d_rm_grown_22 rfl rfl rfl (by omega) (by omega) (fun hc22 => ?_) (fun hc22 => ?_)
  · refine Ex_iconst d_rm_grown_27 ic_0 ?_
    refine Ex_istore [some (.ref 38), some (.int (nI (r))), some (.int (nI (sd))), some (.int (nI (gN l))), some (.int (nI (rR R r))), some (.int (nI (rC R r))), some (.int (0)), none, none, none, none, none, none] d_rm_grown_28 (Nat.le_of_ble_eq_true rfl) rfl ?_
    refine rm_grown_L4 hs hK hO hR hRO hr hl hsd hW (by omega) (fun h1 f1 z => ⟨f1, Or.inl ⟨z, rfl⟩⟩) (fun h1 hI hev => ?_) (gN l) 0 (by omega) (fun x hx => absurd hx (by omega)) h ⟨Fr.rf, hW, fun x hx => absurd hx (by omega)⟩
    refine Ex_iconst d_rm_grown_292 ic_1 ?_
    refine Ex_zreturn d_rm_grown_293 rfl (by decide) ?_
    exact ⟨hI.1, Or.inr ⟨⟨by omega, hev⟩, rfl, hI.2.2⟩⟩
  · refine Ex_iconst d_rm_grown_25 ic_0 ?_
    refine Ex_zreturn d_rm_grown_26 rfl (by decide) ?_
    exact ⟨Fr.rf, Or.inl ⟨fun z => by have := z.1; omega, rfl⟩⟩
def cpC (c : Nat → Tl) : Nat → Nat → Tl
  | 0 => fun _ => none
  | k + 1 => va_up (cpC c k) k (c k)
theorem cpC_at (c : Nat → Tl) : ∀ n x, x < n → cpC c n x = c x
  | 0, x, h => absurd h (Nat.not_lt_zero x)
  | n + 1, x, h => by
    show va_up (cpC c n) n (c n) x = _
    unfold va_up
    by_cases hx : x = n
    · rw [if_pos hx, hx]
    · rw [if_neg hx]
      exact cpC_at c n x (by omega)
def grR (P : SP) (l : LV) : Nat → SP
  | 0 => P
  | i + 1 => newR (grR P l i) (gL l i) (gO l i) (cpC (gX l i) (gL l i))
def rgL (a m : Nat) : List Nat := (List.range m).map (fun i => a + i)
theorem rgL_len (a m : Nat) : (rgL a m).length = m := by simp [rgL]
theorem rgL_get {a m i : Nat} (h : i < m) : (rgL a m).getD i 0 = a + i := by
  unfold rgL
  rw [List.getD_eq_getElem?_getD, List.getElem?_map, List.getElem?_range h]
  rfl
def grP (P : SP) (l : LV) : SP := newPat (grR P l (gN l)) (rgL (pMd P) (gN l))
theorem grR_s (P : SP) (l : LV) : ∀ i, pMd (grR P l i) = pMd P + i ∧ pNp (grR P l i) = pNp P ∧ pPat (grR P l i) = pPat P ∧ pHi (grR P l i) = pHi P
  | 0 => ⟨rfl, rfl, rfl, rfl⟩
  | i + 1 => by
    obtain ⟨h1, h2, h3, h4⟩ := grR_s P l i
    refine ⟨?_, h2, h3, h4⟩
    show pMd (grR P l i) + 1 = _
    omega
theorem grR_ok {n : Nat} {P : SP} (hQ : PO n P) {l : LV} (hl : LO n l) : ∀ i, i ≤ gN l → pMd P + i ≤ 6000 → PO n (grR P l i)
  | 0, _, _ => hQ
  | i + 1, hi, hm => by
    have h1 := grR_ok hQ hl i (by omega) (by omega)
    have h2 := hl.2 i (by omega)
    refine PO_newR h1 (by rw [(grR_s P l i).1]; omega) h2.1.1 h2.1.2 (fun k hk => ?_)
    rw [cpC_at _ _ _ hk]
    exact h2.2 k hk
theorem grP_ok {n : Nat} {P : SP} (hQ : PO n P) {l : LV} (hl : LO n l) (hn : pNp P < 16) (hm : pMd P + gN l ≤ 6000) : PO n (grP P l) := by
  refine PO_newPat (grR_ok hQ hl _ (Nat.le_refl _) hm) (by rw [(grR_s P l _).2.1]; exact hn) ⟨by rw [rgL_len]; exact hl.1, fun x hx => ?_⟩
  rw [(grR_s P l _).1]
  unfold rgL at hx
  rw [List.mem_map] at hx
  obtain ⟨i, hi, rfl⟩ := hx
  rw [List.mem_range] at hi
  omega
abbrev lvG (K : SK) (R : SR) (P : SP) (p r s : Nat) : LV := lvN K R r (lv0 P (pPat P p)) s
abbrev okGr (K : SK) (R : SR) (P : SP) (p r s : Int) : Prop := 0 ≤ p ∧ p < pNp P ∧ 0 ≤ r ∧ r < R.1 ∧ 0 ≤ s ∧ s ≤ 5 ∧ pNp P < 16 ∧ (∀ t, t < s.toNat → okLv R r.toNat (lvG K R P p.toNat r.toNat t)) ∧ gN (lvG K R P p.toNat r.toNat s.toNat) ≤ 6000 - pMd P
theorem rm_grow_L1 {S : mj_S} {Q : Option Value → mj_H → Prop} {h : mj_H} (hs : HT h) {P : SP} (hP : PM P h) {n : Nat} (hQ : PO n P) {p : Nat} (hp : p < pNp P) {z2 z3 : Int32} {i : Nat} (hi : i < (pPat P p).length)
    (kx : ∀ h1 : mj_H, (Fr (fun a _ => a = 59 ∨ a = 60 ∨ a = 61) h h1 ∧ (∀ x, x < i → mI h1 60 x = nI (gL (lv0 P (pPat P p)) x) ∧ mI h1 61 x = J (gO (lv0 P (pPat P p)) x) ∧ ∀ k, k < gL (lv0 P (pPat P p)) x → mI h1 59 (60 * x + k) = eM (gX (lv0 P (pPat P p)) x k)) ∧ mI h1 60 i = nI (gL (lv0 P (pPat P p)) i) ∧ mI h1 61 i = J (gO (lv0 P (pPat P p)) i) ∧ ∀ y, y < gL (lv0 P (pPat P p)) i → mI h1 59 (60 * i + y) = eM (gX (lv0 P (pPat P p)) i y)) → Ex S rm_grow 138 [some (.ref 38), some (.int (nI (p))), some (.int (z2)), some (.int (z3)), some (.int (nI ((pPat P p).length))), some (.int (nI (i))), some (.int (nI ((pPat P p).getD i 0))), some (.int (nI (gL (lv0 P (pPat P p)) i))), none, none, none] [] h1 Q) : ∀ d k : Nat, k + d = gL (lv0 P (pPat P p)) i → ∀ h1 : mj_H, (Fr (fun a _ => a = 59 ∨ a = 60 ∨ a = 61) h h1 ∧ (∀ x, x < i → mI h1 60 x = nI (gL (lv0 P (pPat P p)) x) ∧ mI h1 61 x = J (gO (lv0 P (pPat P p)) x) ∧ ∀ k, k < gL (lv0 P (pPat P p)) x → mI h1 59 (60 * x + k) = eM (gX (lv0 P (pPat P p)) x k)) ∧ mI h1 60 i = nI (gL (lv0 P (pPat P p)) i) ∧ mI h1 61 i = J (gO (lv0 P (pPat P p)) i) ∧ ∀ y, y < k → mI h1 59 (60 * i + y) = eM (gX (lv0 P (pPat P p)) i y)) → Ex S rm_grow 94 [some (.ref 38), some (.int (nI (p))), some (.int (z2)), some (.int (z3)), some (.int (nI ((pPat P p).length))), some (.int (nI (i))), some (.int (nI ((pPat P p).getD i 0))), some (.int (nI (k))), none, none, none] [] h1 Q := by
  have hrow := PO_row hQ hp hi
  have hro := hQ.2.1 _ hrow
  have hmd : pMd P ≤ 6000 := hQ.1
  have hlen := (hQ.2.2.2.1 p hp).1
  have hg60 : gL (lv0 P (pPat P p)) i ≤ 60 := hro.1
  intro d
  induction d with
  | zero =>
    intro k hkk h1 hI
    obtain rfl : gL (lv0 P (pPat P p)) i = k := by omega
    have f1 := hI.1
    have hs1 : HT h1 := f1.ht hs (by decide)
    have hP1 := PM_fr hs f1 (by intro a k; unfold WPM; omega) hP
    obtain ⟨c1, c2, c3⟩ := hP1.1.2 _ hrow
    refine Ex_iload d_rm_grow_94 rfl ?_
    refine Ex_aload_n d_rm_grow_96 rfl ?_
    refine Ex_getR (v := .ref 44) d_rm_grow_97 pf_rm_27 rfl (t_38 hs1) (r_38_6 hs1) ?_
    refine Ex_iload d_rm_grow_100 rfl ?_
    refine Ex_ialoadN (a := (pPat P p).getD i 0) (y := (nI (gL (lv0 P (pPat P p)) i))) d_rm_grow_102 (t_44 hs1) rfl (by omega) (by decide) c1 ?_
    refine Ex_icmp_geN (gL (lv0 P (pPat P p)) i) (gL (lv0 P (pPat P p)) i) 138 d_rm_grow_103 rfl rfl rfl (by omega) (by omega) (fun hc103 => ?_) (fun hc103 => ?_)
    · exact kx h1 hI
    · exfalso; omega
  | succ d ih =>
    intro k hkk h1 hI
    have f1 := hI.1
    have hs1 : HT h1 := f1.ht hs (by decide)
    have hP1 := PM_fr hs f1 (by intro a k; unfold WPM; omega) hP
    obtain ⟨c1, c2, c3⟩ := hP1.1.2 _ hrow
    refine Ex_iload d_rm_grow_94 rfl ?_
    refine Ex_aload_n d_rm_grow_96 rfl ?_
    refine Ex_getR (v := .ref 44) d_rm_grow_97 pf_rm_27 rfl (t_38 hs1) (r_38_6 hs1) ?_
    refine Ex_iload d_rm_grow_100 rfl ?_
    refine Ex_ialoadN (a := (pPat P p).getD i 0) (y := (nI (gL (lv0 P (pPat P p)) i))) d_rm_grow_102 (t_44 hs1) rfl (by omega) (by decide) c1 ?_
    refine Ex_icmp_geN (k) (gL (lv0 P (pPat P p)) i) 138 d_rm_grow_103 rfl rfl rfl (by omega) (by omega) (fun hc103 => ?_) (fun hc103 => ?_)
    · exfalso; omega
    · refine Ex_aload_n d_rm_grow_106 rfl ?_
      refine Ex_getR (v := .ref 59) d_rm_grow_107 pf_rm_73 rfl (t_38 hs1) (r_38_30 hs1) ?_
      refine Ex_bipush d_rm_grow_110 bp_60 ?_
      refine Ex_iload d_rm_grow_112 rfl ?_
      refine Ex_imulN (60) (i) d_rm_grow_114 rfl rfl ?_
      refine Ex_iload d_rm_grow_115 rfl ?_
      refine Ex_iaddN (60 * i) (k) d_rm_grow_117 rfl rfl ?_
      refine Ex_aload_n d_rm_grow_118 rfl ?_
      refine Ex_getR (v := .ref 46) d_rm_grow_119 pf_rm_34 rfl (t_38 hs1) (r_38_8 hs1) ?_
      refine Ex_bipush d_rm_grow_122 bp_60 ?_
      refine Ex_iload d_rm_grow_124 rfl ?_
      refine Ex_imulN (60) ((pPat P p).getD i 0) d_rm_grow_126 rfl rfl ?_
      refine Ex_iload d_rm_grow_127 rfl ?_
      refine Ex_iaddN (60 * ((pPat P p).getD i 0)) (k) d_rm_grow_129 rfl rfl ?_
      refine Ex_ialoadN (a := (60 * ((pPat P p).getD i 0)) + k) (y := (eM (gX (lv0 P (pPat P p)) i k))) d_rm_grow_130 (t_46 hs1) rfl (by omega) (by decide) (c3 k (show k < gL (lv0 P (pPat P p)) i by omega)) ?_
      refine Ex_iastoreN (a := (60 * i) + k) d_rm_grow_131 (t_59 hs1) rfl (by omega) (by decide) ?_
      refine Ex_iincN (k) 1 [some (.ref 38), some (.int (nI (p))), some (.int (z2)), some (.int (z3)), some (.int (nI ((pPat P p).length))), some (.int (nI (i))), some (.int (nI ((pPat P p).getD i 0))), some (.int (nI (k + 1))), none, none, none] d_rm_grow_132 rfl rfl rfl rfl ?_
      refine Ex_goto 94 d_rm_grow_135 rfl ?_
      refine ih (k + 1) (by omega) _ ⟨Fr.sI f1 (Or.inl rfl), fun x hx => ?_, ?_, ?_, fun y hy => ?_⟩
      · obtain ⟨z1, z2, z3⟩ := hI.2.1 x hx
        refine ⟨by rw [mI_oth (Or.inl (by decide))]; exact z1, by rw [mI_oth (Or.inl (by decide))]; exact z2, fun y hy => ?_⟩
        have hy60 := (hQ.2.1 _ (PO_row hQ hp (show x < (pPat P p).length by omega))).1
        have hy : y < pL P ((pPat P p).getD x 0) := hy
        rw [mI_oth (Or.inr (by omega))]
        exact z3 y hy
      · rw [mI_oth (Or.inl (by decide))]; exact hI.2.2.1
      · rw [mI_oth (Or.inl (by decide))]; exact hI.2.2.2.1
      · by_cases hyk : y = k
        · subst hyk
          rw [mI_self]
        · rw [mI_oth (Or.inr (by omega))]
          exact hI.2.2.2.2 y (by omega)
theorem rm_grow_L2 {S : mj_S} {Q : Option Value → mj_H → Prop} {h : mj_H} (hs : HT h) {P : SP} (hP : PM P h) {n : Nat} (hQ : PO n P) {p : Nat} (hp : p < pNp P) {z2 z3 : Int32}
    (kx : ∀ h1 : mj_H, (Fr (fun a _ => a = 59 ∨ a = 60 ∨ a = 61) h h1 ∧ ∀ x, x < (pPat P p).length → mI h1 60 x = nI (gL (lv0 P (pPat P p)) x) ∧ mI h1 61 x = J (gO (lv0 P (pPat P p)) x) ∧ ∀ k, k < gL (lv0 P (pPat P p)) x → mI h1 59 (60 * x + k) = eM (gX (lv0 P (pPat P p)) x k)) → Ex S rm_grow 144 [some (.ref 38), some (.int (nI (p))), some (.int (z2)), some (.int (z3)), some (.int (nI ((pPat P p).length))), some (.int (nI ((pPat P p).length))), none, none, none, none, none] [] h1 Q) : ∀ d i : Nat, i + d = (pPat P p).length → ∀ h1 : mj_H, (Fr (fun a _ => a = 59 ∨ a = 60 ∨ a = 61) h h1 ∧ ∀ x, x < i → mI h1 60 x = nI (gL (lv0 P (pPat P p)) x) ∧ mI h1 61 x = J (gO (lv0 P (pPat P p)) x) ∧ ∀ k, k < gL (lv0 P (pPat P p)) x → mI h1 59 (60 * x + k) = eM (gX (lv0 P (pPat P p)) x k)) → Ex S rm_grow 47 [some (.ref 38), some (.int (nI (p))), some (.int (z2)), some (.int (z3)), some (.int (nI ((pPat P p).length))), some (.int (nI (i))), none, none, none, none, none] [] h1 Q := by
  have hlen := (hQ.2.2.2.1 p hp).1
  intro d
  induction d with
  | zero =>
    intro i hkk h1 hI
    obtain rfl : (pPat P p).length = i := by omega
    refine Ex_iload d_rm_grow_47 rfl ?_
    refine Ex_iload d_rm_grow_49 rfl ?_
    refine Ex_icmp_geN ((pPat P p).length) ((pPat P p).length) 144 d_rm_grow_51 rfl rfl rfl (by omega) (by omega) (fun hc51 => ?_) (fun hc51 => ?_)
    · exact kx h1 hI
    · exfalso; omega
  | succ d ih =>
    intro i hkk h1 hI
    have hi : i < (pPat P p).length := by omega
    have hrow := PO_row hQ hp hi
    have hro := hQ.2.1 _ hrow
    have hmd : pMd P ≤ 6000 := hQ.1
    have f1 := hI.1
    have hs1 : HT h1 := f1.ht hs (by decide)
    have hP1 := PM_fr hs f1 (by intro a k; unfold WPM; omega) hP
    obtain ⟨c1, c2, c3⟩ := hP1.1.2 _ hrow
    refine Ex_iload d_rm_grow_47 rfl ?_
    refine Ex_iload d_rm_grow_49 rfl ?_
    refine Ex_icmp_geN (i) ((pPat P p).length) 144 d_rm_grow_51 rfl rfl rfl (by omega) (by omega) (fun hc51 => ?_) (fun hc51 => ?_)
    · exfalso; omega
    · refine Ex_aload_n d_rm_grow_54 rfl ?_
      refine Ex_iload_n d_rm_grow_55 rfl ?_
      refine Ex_iload d_rm_grow_56 rfl ?_
      refine Ex_pV2 (v := .int (nI ((pPat P p).getD i 0))) d_rm_grow_58 pk_rm_grow_175 (t_38 hs1) (rm_rowOf_p hs1 hP1.2.1 hQ hp hi) ?_
      refine Ex_istore [some (.ref 38), some (.int (nI (p))), some (.int (z2)), some (.int (z3)), some (.int (nI ((pPat P p).length))), some (.int (nI (i))), some (.int (nI ((pPat P p).getD i 0))), none, none, none, none] d_rm_grow_61 (Nat.le_of_ble_eq_true rfl) rfl ?_
      refine Ex_aload_n d_rm_grow_63 rfl ?_
      refine Ex_getR (v := .ref 60) d_rm_grow_64 pf_rm_76 rfl (t_38 hs1) (r_38_31 hs1) ?_
      refine Ex_iload d_rm_grow_67 rfl ?_
      refine Ex_aload_n d_rm_grow_69 rfl ?_
      refine Ex_getR (v := .ref 44) d_rm_grow_70 pf_rm_27 rfl (t_38 hs1) (r_38_6 hs1) ?_
      refine Ex_iload d_rm_grow_73 rfl ?_
      refine Ex_ialoadN (a := (pPat P p).getD i 0) (y := (nI (gL (lv0 P (pPat P p)) i))) d_rm_grow_75 (t_44 hs1) rfl (by omega) (by decide) c1 ?_
      refine Ex_iastoreN (a := i) d_rm_grow_76 (t_60 hs1) rfl (by omega) (by decide) ?_
      refine Ex_aload_n d_rm_grow_77 rfl ?_
      refine Ex_getR (v := .ref 61) d_rm_grow_78 pf_rm_79 rfl (t_38 hs1) (r_38_32 hs1) ?_
      refine Ex_iload d_rm_grow_81 rfl ?_
      refine Ex_aload_n d_rm_grow_83 rfl ?_
      refine Ex_getR (v := .ref 45) d_rm_grow_84 pf_rm_30 rfl (t_38 hs1) (r_38_7 hs1) ?_
      refine Ex_iload d_rm_grow_87 rfl ?_
      refine Ex_ialoadN (a := (pPat P p).getD i 0) (y := (J (gO (lv0 P (pPat P p)) i))) d_rm_grow_89 (t_45 hs1) rfl (by omega) (by decide) (by rw [mI_oth (Or.inl (by decide))]; exact c2) ?_
      refine Ex_iastoreN (a := i) d_rm_grow_90 (t_61 hs1) rfl (by omega) (by decide) ?_
      refine Ex_iconst d_rm_grow_91 ic_0 ?_
      refine Ex_istore [some (.ref 38), some (.int (nI (p))), some (.int (z2)), some (.int (z3)), some (.int (nI ((pPat P p).length))), some (.int (nI (i))), some (.int (nI ((pPat P p).getD i 0))), some (.int (0)), none, none, none] d_rm_grow_92 (Nat.le_of_ble_eq_true rfl) rfl ?_
      refine rm_grow_L1 hs hP hQ hp hi (fun h2 hI2 => ?_) (gL (lv0 P (pPat P p)) i) 0 (by omega) _ ⟨Fr.sI (Fr.sI f1 (Or.inr (Or.inl rfl))) (Or.inr (Or.inr rfl)), fun x hx => ?_, ?_, mI_self _ _ _ _, fun y hy => absurd hy (by omega)⟩
      · refine Ex_iincN (i) 1 [some (.ref 38), some (.int (nI (p))), some (.int (z2)), some (.int (z3)), some (.int (nI ((pPat P p).length))), some (.int (nI (i + 1))), some (.int (nI ((pPat P p).getD i 0))), some (.int (nI (gL (lv0 P (pPat P p)) i))), none, none, none] d_rm_grow_138 rfl rfl rfl rfl ?_
        refine Ex_goto 47 d_rm_grow_141 rfl ?_
        refine Ex_forget (ls' := [some (.ref 38), some (.int (nI (p))), some (.int (z2)), some (.int (z3)), some (.int (nI ((pPat P p).length))), some (.int (nI (i + 1))), none, none, none, none, none]) (sub_s (sub_s (sub_s (sub_s (sub_s (sub_s (sub_n (sub_n (sub_n (sub_n (sub_n sub_0))))))))))) ?_
        refine ih (i + 1) (by omega) h2 ⟨hI2.1, fun x hx => ?_⟩
        by_cases hxi : x = i
        · subst hxi
          exact ⟨hI2.2.2.1, hI2.2.2.2.1, hI2.2.2.2.2⟩
        · exact hI2.2.1 x (by omega)
      · obtain ⟨z1, z2, z3⟩ := hI.2 x hx
        refine ⟨?_, ?_, fun y hy => ?_⟩
        · rw [mI_oth (Or.inl (by decide)), mI_oth (Or.inr (by omega))]; exact z1
        · rw [mI_oth (Or.inr (by omega)), mI_oth (Or.inl (by decide))]; exact z2
        · rw [mI_oth (Or.inl (by decide)), mI_oth (Or.inl (by decide))]; exact z3 y hy
      · rw [mI_oth (Or.inl (by decide)), mI_self]
theorem rm_grow_L3 {S : mj_S} {Q : Option Value → mj_H → Prop} {h : mj_H} (hs : HT h) {K : SK} (hK : KM K h) (hO : KO K) {R : SR} (hR : RM R h) (hRO : RO K.1 R) {r : Nat} (hr : r < R.1) {P : SP} {p : Nat} {s : Nat} (hs5 : s ≤ 5) (hl0 : LO K.1 (lv0 P (pPat P p))) (kz : ∀ h1 : mj_H, Fr Wgw h h1 → (∃ t, t < s ∧ ¬ okLv R r (lvG K R P p r t)) → Q (some (.int (-1))) h1)
    (kx : ∀ h1 : mj_H, (Fr Wgw h h1 ∧ WL (s % 2) (lvG K R P p r s) h1) → (∀ t, t < s → okLv R r (lvG K R P p r t)) → Ex S rm_grow 193 [some (.ref 38), some (.int (nI (p))), some (.int (nI (r))), some (.int (nI (s))), some (.int (nI (gN (lvG K R P p r s)))), some (.int (nI (s % 2))), some (.int (nI (s))), none, none, none, none] [] h1 Q) : ∀ d t : Nat, t + d = s → (∀ u, u < t → okLv R r (lvG K R P p r u)) → ∀ h1 : mj_H, (Fr Wgw h h1 ∧ WL (t % 2) (lvG K R P p r t) h1) → Ex S rm_grow 150 [some (.ref 38), some (.int (nI (p))), some (.int (nI (r))), some (.int (nI (s))), some (.int (nI (gN (lvG K R P p r t)))), some (.int (nI (t % 2))), some (.int (nI (t))), none, none, none, none] [] h1 Q := by
  intro d
  induction d with
  | zero =>
    intro t htt hev h1 hI
    obtain rfl : s = t := by omega
    refine Ex_iload d_rm_grow_150 rfl ?_
    refine Ex_iload_n d_rm_grow_152 rfl ?_
    refine Ex_icmp_geN (s) (s) 193 d_rm_grow_153 rfl rfl rfl (by omega) (by omega) (fun hc153 => ?_) (fun hc153 => ?_)
    · exact kx h1 hI hev
    · exfalso; omega
  | succ d ih =>
    intro t htt hev h1 hI
    have f1 := hI.1
    have hs1 : HT h1 := f1.ht hs Wgw_st
    have hK1 := KM_g hs f1 hK
    have hR1 := RM_g hs f1 hR
    have hlt := lvN_ok hO hRO hr hl0 t hev
    have hl60 := hlt.1
    obtain ⟨hz1, hz2⟩ := hRO.2 r hr
    have h8 := hRO.1
    refine Ex_iload d_rm_grow_150 rfl ?_
    refine Ex_iload_n d_rm_grow_152 rfl ?_
    refine Ex_icmp_geN (t) (s) 193 d_rm_grow_153 rfl rfl rfl (by omega) (by omega) (fun hc153 => ?_) (fun hc153 => ?_)
    · exfalso; omega
    · refine Ex_aload_n d_rm_grow_156 rfl ?_
      refine Ex_iload_n d_rm_grow_157 rfl ?_
      refine Ex_iload d_rm_grow_158 rfl ?_
      refine Ex_iload d_rm_grow_160 rfl ?_
      refine Ex_cV3 d_rm_grow_162 pk_rm_grow_244 (t_38 hs1) (rm_grown_s hs1 hK1 hO hR1 hRO hr hlt (by omega) hI.2) ?_
      rintro rv h2 ⟨f2, hz⟩
      have hs2 : HT h2 := f2.ht hs1 Wgw_st
      have hR2 := RM_g hs1 f2 hR1
      obtain ⟨v, rfl, hv⟩ : ∃ v : Bool, rv = some (.int (bI v)) ∧ (v = true ↔ okLv R r (lvG K R P p r t)) := by
        rcases hz with ⟨z1, z2⟩ | ⟨z1, z2, z3⟩
        · exact ⟨false, z2, by simp [z1]⟩
        · exact ⟨true, z2, by simp [z1]⟩
      show Ex S rm_grow 165 [some (.ref 38), some (.int (nI (p))), some (.int (nI (r))), some (.int (nI (s))), some (.int (nI (gN (lvG K R P p r t)))), some (.int (nI (t % 2))), some (.int (nI (t))), none, none, none, none] [.int (bI (v))] h2 _
      refine Ex_if_neB (v) 170 d_rm_grow_165 rfl rfl (fun hc165 => ?_) (fun hc165 => ?_)
      · refine Ex_iload d_rm_grow_170 rfl ?_
        refine Ex_aload_n d_rm_grow_172 rfl ?_
        refine Ex_getR (v := .ref 56) d_rm_grow_173 pf_rm_64 rfl (t_38 hs2) (r_38_26 hs2) ?_
        refine Ex_iload_n d_rm_grow_176 rfl ?_
        refine Ex_ialoadN (a := r) (y := (nI (rR R r))) d_rm_grow_177 (t_56 hs2) rfl (by omega) (by decide) (hR2.2 r hr).1 ?_
        refine Ex_imulN (gN (lvG K R P p r t)) (rR R r) d_rm_grow_178 rfl rfl ?_
        refine Ex_istore [some (.ref 38), some (.int (nI (p))), some (.int (nI (r))), some (.int (nI (s))), some (.int (nI ((gN (lvG K R P p r t)) * (rR R r)))), some (.int (nI (t % 2))), some (.int (nI (t))), none, none, none, none] d_rm_grow_179 (Nat.le_of_ble_eq_true rfl) rfl ?_
        refine Ex_iconst d_rm_grow_181 ic_1 ?_
        refine Ex_iload d_rm_grow_182 rfl ?_
        refine Ex_isubN (1) (t % 2) d_rm_grow_184 rfl rfl (by omega) ?_
        refine Ex_istore [some (.ref 38), some (.int (nI (p))), some (.int (nI (r))), some (.int (nI (s))), some (.int (nI ((gN (lvG K R P p r t)) * (rR R r)))), some (.int (nI (1 - (t % 2)))), some (.int (nI (t))), none, none, none, none] d_rm_grow_185 (Nat.le_of_ble_eq_true rfl) rfl ?_
        refine Ex_iincN (t) 1 [some (.ref 38), some (.int (nI (p))), some (.int (nI (r))), some (.int (nI (s))), some (.int (nI ((gN (lvG K R P p r t)) * (rR R r)))), some (.int (nI (1 - (t % 2)))), some (.int (nI (t + 1))), none, none, none, none] d_rm_grow_187 rfl rfl rfl rfl ?_
        refine Ex_goto 150 d_rm_grow_190 rfl ?_
        have hok := hv.mp hc165
        have hW2 : WL (1 - t % 2) (lvS K R r (lvG K R P p r t)) h2 := by
          rcases hz with ⟨z1, z2⟩ | ⟨z1, z2, z3⟩
          · exact absurd hok z1
          · exact z3
        have z := ih (t + 1) (by omega) (fun u hu => ?_) h2 ⟨f1.tr f2, ?_⟩
        · rw [show (t + 1) % 2 = 1 - t % 2 by omega] at z
          exact z
        · by_cases hut : u = t
          · rw [hut]; exact hok
          · exact hev u (by omega)
        · rw [show (t + 1) % 2 = 1 - t % 2 by omega]
          exact hW2
      · refine Ex_iconst d_rm_grow_168 ic_m1 ?_
        refine Ex_ireturn d_rm_grow_169 rfl ?_
        exact kz h2 (f1.tr f2) ⟨t, by omega, fun z => by rw [hv.mpr z] at hc165; cases hc165⟩
theorem newR_u (P : SP) (l : Nat) (z : Int) (f : Nat → Tl) (k : Nat) (c : Tl) : uCell (newR P l z f) (pMd P) k c = newR P l z (va_up f k c) := by
  have e1 : pC (newR P l z f) (pMd P) = f := newR_Cn
  unfold uCell
  rw [e1]
  show (_, _, _, va_up (va_up (pC P) (pMd P) f) (pMd P) _, _) = _
  rw [va_uu]
  rfl
theorem cpC_none (c : Nat → Tl) : ∀ n x, n ≤ x → cpC c n x = none
  | 0, x, h => rfl
  | n + 1, x, h => by
    show va_up (cpC c n) n (c n) x = _
    unfold va_up
    rw [if_neg (by omega)]
    exact cpC_none c n x (by omega)
theorem rm_grow_L4 {S : mj_S} {Q : Option Value → mj_H → Prop} {h : mj_H} (hs : HT h) {P : SP} {n : Nat} (hQ : PO n P) (hm : pMd P < 6000) {l : LV} (hl : LO n l) {sd : Nat} (hsd : sd ≤ 1) (hW : WL sd l h) {i : Nat} (hi : i < gN l) {q : Nat} {z1 z2 z3 z4 : Int32}
    (kx : ∀ h1 : mj_H, (Fr (fun a _ => a = 46) h h1 ∧ RwM (newR P (gL l i) (gO l i) (cpC (gX l i) (gL l i))) h1) → Ex S rm_grow 310 [some (.ref 38), some (.int (z1)), some (.int (z2)), some (.int (z3)), some (.int (z4)), some (.int (nI (sd))), some (.int (nI (q))), some (.int (nI (i))), some (.int (nI (60 * sd + i))), some (.int (nI (pMd P))), some (.int (nI (gL l i)))] [] h1 Q) : ∀ d k : Nat, k + d = gL l i → ∀ h1 : mj_H, (Fr (fun a _ => a = 46) h h1 ∧ RwM (newR P (gL l i) (gO l i) (cpC (gX l i) k)) h1) → Ex S rm_grow 266 [some (.ref 38), some (.int (z1)), some (.int (z2)), some (.int (z3)), some (.int (z4)), some (.int (nI (sd))), some (.int (nI (q))), some (.int (nI (i))), some (.int (nI (60 * sd + i))), some (.int (nI (pMd P))), some (.int (nI (k)))] [] h1 Q := by
  have hli := (hl.2 i hi).1
  have hl60 := hl.1
  intro d
  induction d with
  | zero =>
    intro k hkk h1 hI
    obtain rfl : gL l i = k := by omega
    have f1 := hI.1
    have hs1 : HT h1 := f1.ht hs (by decide)
    have hnn := HT_n hs
    have c1 : mI h1 60 (60 * sd + i) = nI (gL l i) := by rw [f1.I (by omega) (by decide)]; exact (hW i hi).1
    have c2 : ∀ k, k < gL l i → mI h1 59 (60 * (60 * sd + i) + k) = eM (gX l i k) := fun k hk => by rw [f1.I (by omega) (by decide)]; exact (hW i hi).2.2 k hk
    refine Ex_iload d_rm_grow_266 rfl ?_
    refine Ex_aload_n d_rm_grow_268 rfl ?_
    refine Ex_getR (v := .ref 60) d_rm_grow_269 pf_rm_76 rfl (t_38 hs1) (r_38_31 hs1) ?_
    refine Ex_iload d_rm_grow_272 rfl ?_
    refine Ex_ialoadN (a := 60 * sd + i) (y := (nI (gL l i))) d_rm_grow_274 (t_60 hs1) rfl (by omega) (by decide) c1 ?_
    refine Ex_icmp_geN (gL l i) (gL l i) 310 d_rm_grow_275 rfl rfl rfl (by omega) (by omega) (fun hc275 => ?_) (fun hc275 => ?_)
    · exact kx h1 hI
    · exfalso; omega
  | succ d ih =>
    intro k hkk h1 hI
    have f1 := hI.1
    have hs1 : HT h1 := f1.ht hs (by decide)
    have hnn := HT_n hs
    have c1 : mI h1 60 (60 * sd + i) = nI (gL l i) := by rw [f1.I (by omega) (by decide)]; exact (hW i hi).1
    have c2 : ∀ k, k < gL l i → mI h1 59 (60 * (60 * sd + i) + k) = eM (gX l i k) := fun k hk => by rw [f1.I (by omega) (by decide)]; exact (hW i hi).2.2 k hk
    refine Ex_iload d_rm_grow_266 rfl ?_
    refine Ex_aload_n d_rm_grow_268 rfl ?_
    refine Ex_getR (v := .ref 60) d_rm_grow_269 pf_rm_76 rfl (t_38 hs1) (r_38_31 hs1) ?_
    refine Ex_iload d_rm_grow_272 rfl ?_
    refine Ex_ialoadN (a := 60 * sd + i) (y := (nI (gL l i))) d_rm_grow_274 (t_60 hs1) rfl (by omega) (by decide) c1 ?_
    refine Ex_icmp_geN (k) (gL l i) 310 d_rm_grow_275 rfl rfl rfl (by omega) (by omega) (fun hc275 => ?_) (fun hc275 => ?_)
    · exfalso; omega
    · refine Ex_aload_n d_rm_grow_278 rfl ?_
      refine Ex_getR (v := .ref 46) d_rm_grow_279 pf_rm_34 rfl (t_38 hs1) (r_38_8 hs1) ?_
      refine Ex_bipush d_rm_grow_282 bp_60 ?_
      refine Ex_iload d_rm_grow_284 rfl ?_
      refine Ex_imulN (60) (pMd P) d_rm_grow_286 rfl rfl ?_
      refine Ex_iload d_rm_grow_287 rfl ?_
      refine Ex_iaddN (60 * (pMd P)) (k) d_rm_grow_289 rfl rfl ?_
      refine Ex_aload_n d_rm_grow_290 rfl ?_
      refine Ex_getR (v := .ref 59) d_rm_grow_291 pf_rm_73 rfl (t_38 hs1) (r_38_30 hs1) ?_
      refine Ex_bipush d_rm_grow_294 bp_60 ?_
      refine Ex_iload d_rm_grow_296 rfl ?_
      refine Ex_imulN (60) (60 * sd + i) d_rm_grow_298 rfl rfl ?_
      refine Ex_iload d_rm_grow_299 rfl ?_
      refine Ex_iaddN (60 * (60 * sd + i)) (k) d_rm_grow_301 rfl rfl ?_
      refine Ex_ialoadN (a := (60 * (60 * sd + i)) + k) (y := (eM (gX l i k))) d_rm_grow_302 (t_59 hs1) rfl (by omega) (by decide) (c2 k (by omega)) ?_
      refine Ex_iastoreN (a := (60 * (pMd P)) + k) d_rm_grow_303 (t_46 hs1) rfl (by omega) (by decide) ?_
      refine Ex_iincN (k) 1 [some (.ref 38), some (.int (z1)), some (.int (z2)), some (.int (z3)), some (.int (z4)), some (.int (nI (sd))), some (.int (nI (q))), some (.int (nI (i))), some (.int (nI (60 * sd + i))), some (.int (nI (pMd P))), some (.int (nI (k + 1)))] d_rm_grow_304 rfl rfl rfl rfl ?_
      refine Ex_goto 266 d_rm_grow_307 rfl ?_
      refine ih (k + 1) (by omega) _ ⟨Fr.sI f1 rfl, ?_⟩
      have hQ1 : PO n (newR P (gL l i) (gO l i) (cpC (gX l i) k)) := PO_newR hQ hm hli.1 ⟨hli.2.1, hli.2.2⟩ (fun y hy => ?_)
      · have z := RwM_uCell (r := pMd P) (k := k) (c := gX l i k) hQ1 hI.2 (show pMd P < pMd P + 1 by omega) (by rw [newR_Ln]; omega)
        rw [newR_u] at z
        exact z
      · by_cases hyk : y < k
        · rw [cpC_at _ _ _ hyk]
          exact (hl.2 i hi).2 y hy
        · rw [cpC_none _ _ _ (by omega)]
          trivial
theorem WN_st (m : Nat) : ∀ q ∈ statR, ¬ (fun a k => WRw a k ∨ (a = 47 ∧ 60 * m ≤ k ∧ k < 60 * m + 60)) q.1 q.2.1 := by
  have h0 : ∀ q ∈ statR, ¬ (WRw q.1 q.2.1 ∨ q.1 = 47) := by unfold WRw; decide
  intro q hq z
  exact h0 q hq (z.imp id (fun z => z.1))
theorem rm_grow_L5 {S : mj_S} {Q : Option Value → mj_H → Prop} {h : mj_H} (hs : HT h) {P : SP} {n : Nat} (hQ : PO n P) {l : LV} (hl : LO n l) (hm : pMd P + gN l ≤ 6000) (hnp : pNp P < 16) {sd : Nat} (hsd : sd ≤ 1) (hW : WL sd l h) {z1 z2 z3 : Int32} (WNst : ∀ q ∈ statR, ¬ (fun a k => WRw a k ∨ (a = 47 ∧ 60 * pNp P ≤ k ∧ k < 60 * pNp P + 60)) q.1 q.2.1)
    (kx : ∀ h1 : mj_H, (Fr (fun a k => WRw a k ∨ (a = 47 ∧ 60 * pNp P ≤ k ∧ k < 60 * pNp P + 60)) h h1 ∧ RwM (grR P l (gN l)) h1 ∧ ∀ x, x < gN l → mI h1 47 (60 * pNp P + x) = nI (pMd P + x)) → Ex S rm_grow 331 [some (.ref 38), some (.int (z1)), some (.int (z2)), some (.int (z3)), some (.int (nI (gN l))), some (.int (nI (sd))), some (.int (nI (pNp P))), some (.int (nI (gN l))), none, none, none] [] h1 Q) : ∀ d i : Nat, i + d = gN l → ∀ h1 : mj_H, (Fr (fun a k => WRw a k ∨ (a = 47 ∧ 60 * pNp P ≤ k ∧ k < 60 * pNp P + 60)) h h1 ∧ RwM (grR P l i) h1 ∧ ∀ x, x < i → mI h1 47 (60 * pNp P + x) = nI (pMd P + x)) → Ex S rm_grow 226 [some (.ref 38), some (.int (z1)), some (.int (z2)), some (.int (z3)), some (.int (nI (gN l))), some (.int (nI (sd))), some (.int (nI (pNp P))), some (.int (nI (i))), none, none, none] [] h1 Q := by
  have hl60 := hl.1
  intro d
  induction d with
  | zero =>
    intro i hkk h1 hI
    obtain rfl : gN l = i := by omega
    refine Ex_iload d_rm_grow_226 rfl ?_
    refine Ex_iload d_rm_grow_228 rfl ?_
    refine Ex_icmp_geN (gN l) (gN l) 331 d_rm_grow_230 rfl rfl rfl (by omega) (by omega) (fun hc230 => ?_) (fun hc230 => ?_)
    · exact kx h1 hI
    · exfalso; omega
  | succ d ih =>
    intro i hkk h1 hI
    have f1 := hI.1
    have hnn := HT_n hs
    have hs1 : HT h1 := f1.ht hs WNst
    have hW1 : WL sd l h1 := fun x hx => by
      obtain ⟨a1, a2, a3⟩ := hW x hx
      exact ⟨by rw [f1.I (by omega) (by unfold WRw; omega)]; exact a1, by rw [f1.I (by omega) (by unfold WRw; omega)]; exact a2, fun k hk => by rw [f1.I (by omega) (by unfold WRw; omega)]; exact a3 k hk⟩
    obtain ⟨g1, g2, g3, g4⟩ := grR_s P l i
    have hQ1 := grR_ok hQ hl i (by omega) (by omega)
    have hi : i < gN l := by omega
    have hli := (hl.2 i hi).1
    refine Ex_iload d_rm_grow_226 rfl ?_
    refine Ex_iload d_rm_grow_228 rfl ?_
    refine Ex_icmp_geN (i) (gN l) 331 d_rm_grow_230 rfl rfl rfl (by omega) (by omega) (fun hc230 => ?_) (fun hc230 => ?_)
    · exfalso; omega
    · refine Ex_bipush d_rm_grow_233 bp_60 ?_
      refine Ex_iload d_rm_grow_235 rfl ?_
      refine Ex_imulN (60) (sd) d_rm_grow_237 rfl rfl ?_
      refine Ex_iload d_rm_grow_238 rfl ?_
      refine Ex_iaddN (60 * sd) (i) d_rm_grow_240 rfl rfl ?_
      refine Ex_istore [some (.ref 38), some (.int (z1)), some (.int (z2)), some (.int (z3)), some (.int (nI (gN l))), some (.int (nI (sd))), some (.int (nI (pNp P))), some (.int (nI (i))), some (.int (nI ((60 * sd) + i))), none, none] d_rm_grow_241 (Nat.le_of_ble_eq_true rfl) rfl ?_
      refine Ex_aload_n d_rm_grow_243 rfl ?_
      refine Ex_aload_n d_rm_grow_244 rfl ?_
      refine Ex_getR (v := .ref 60) d_rm_grow_245 pf_rm_76 rfl (t_38 hs1) (r_38_31 hs1) ?_
      refine Ex_iload d_rm_grow_248 rfl ?_
      refine Ex_ialoadN (a := (60 * sd) + i) (y := (nI (gL l i))) d_rm_grow_250 (t_60 hs1) rfl (by omega) (by decide) (hW1 i hi).1 ?_
      refine Ex_aload_n d_rm_grow_251 rfl ?_
      refine Ex_getR (v := .ref 61) d_rm_grow_252 pf_rm_79 rfl (t_38 hs1) (r_38_32 hs1) ?_
      refine Ex_iload d_rm_grow_255 rfl ?_
      refine Ex_ialoadN (a := (60 * sd) + i) (y := (J (gO l i))) d_rm_grow_257 (t_61 hs1) rfl (by omega) (by decide) (hW1 i hi).2.1 ?_
      refine Ex_cV2 d_rm_grow_258 pk_rm_grow_194 (t_38 hs1) (rm_newRow_s hs1 hI.2.1 hQ1 (by rw [g1]; omega) hli.1) ?_
      rintro rv h2 ⟨rfl, hR2, f2⟩
      have hs2 : HT h2 := f2.ht hs1 WRw_st
      have hnn1 := HT_n hs1
      have hW2 : WL sd l h2 := fun x hx => by
        obtain ⟨a1, a2, a3⟩ := hW1 x hx
        exact ⟨by rw [f2.I (by omega) (by unfold WRw; omega)]; exact a1, by rw [f2.I (by omega) (by unfold WRw; omega)]; exact a2, fun k hk => by rw [f2.I (by omega) (by unfold WRw; omega)]; exact a3 k hk⟩
      show Ex S rm_grow 261 [some (.ref 38), some (.int (z1)), some (.int (z2)), some (.int (z3)), some (.int (nI (gN l))), some (.int (nI (sd))), some (.int (nI (pNp P))), some (.int (nI (i))), some (.int (nI ((60 * sd) + i))), none, none] [.int (nI (pMd (grR P l i)))] h2 _
      refine Ex_istore [some (.ref 38), some (.int (z1)), some (.int (z2)), some (.int (z3)), some (.int (nI (gN l))), some (.int (nI (sd))), some (.int (nI (pNp P))), some (.int (nI (i))), some (.int (nI ((60 * sd) + i))), some (.int (nI (pMd (grR P l i)))), none] d_rm_grow_261 (Nat.le_of_ble_eq_true rfl) rfl ?_
      refine Ex_iconst d_rm_grow_263 ic_0 ?_
      refine Ex_istore [some (.ref 38), some (.int (z1)), some (.int (z2)), some (.int (z3)), some (.int (nI (gN l))), some (.int (nI (sd))), some (.int (nI (pNp P))), some (.int (nI (i))), some (.int (nI ((60 * sd) + i))), some (.int (nI (pMd (grR P l i)))), some (.int (0))] d_rm_grow_264 (Nat.le_of_ble_eq_true rfl) rfl ?_
      refine rm_grow_L4 hs2 hQ1 (by rw [g1]; omega) hl hsd hW2 hi (fun h3 hI3 => ?_) (gL l i) 0 (by omega) h2 ⟨Fr.rf, hR2⟩
      have hs3 : HT h3 := hI3.1.ht hs2 (by decide)
      refine Ex_aload_n d_rm_grow_310 rfl ?_
      refine Ex_getR (v := .ref 47) d_rm_grow_311 pf_rm_37 rfl (t_38 hs3) (r_38_10 hs3) ?_
      refine Ex_bipush d_rm_grow_314 bp_60 ?_
      refine Ex_iload d_rm_grow_316 rfl ?_
      refine Ex_imulN (60) (pNp P) d_rm_grow_318 rfl rfl ?_
      refine Ex_iload d_rm_grow_319 rfl ?_
      refine Ex_iaddN (60 * (pNp P)) (i) d_rm_grow_321 rfl rfl ?_
      refine Ex_iload d_rm_grow_322 rfl ?_
      refine Ex_iastoreN (a := (60 * (pNp P)) + i) d_rm_grow_324 (t_47 hs3) rfl (by omega) (by decide) ?_
      refine Ex_iincN (i) 1 [some (.ref 38), some (.int (z1)), some (.int (z2)), some (.int (z3)), some (.int (nI (gN l))), some (.int (nI (sd))), some (.int (nI (pNp P))), some (.int (nI (i + 1))), some (.int (nI (60 * sd + i))), some (.int (nI (pMd (grR P l i)))), some (.int (nI (gL l i)))] d_rm_grow_325 rfl rfl rfl rfl ?_
      refine Ex_goto 226 d_rm_grow_328 rfl ?_
      refine Ex_forget (ls' := [some (.ref 38), some (.int (z1)), some (.int (z2)), some (.int (z3)), some (.int (nI (gN l))), some (.int (nI (sd))), some (.int (nI (pNp P))), some (.int (nI (i + 1))), none, none, none]) (sub_s (sub_s (sub_s (sub_s (sub_s (sub_s (sub_s (sub_s (sub_n (sub_n (sub_n sub_0))))))))))) ?_
      rw [g1]
      refine ih (i + 1) (by omega) _ ⟨Fr.sI ((f1.tr (f2.mono (fun a k z => Or.inl z))).tr (hI3.1.mono (fun a k z => Or.inl (by unfold WRw; omega)))) (Or.inr ⟨rfl, by omega, by omega⟩), ?_, fun x hx => ?_⟩
      · exact RwM_fr hs3 (Fr.sI (W := fun a _ => a = 47) Fr.rf rfl) (by intro a k; unfold WRw; omega) hI3.2
      · by_cases hxi : x = i
        · subst hxi
          rw [mI_self]
        · rw [mI_oth (Or.inr (by omega)), hI3.1.I (by have := f1.le; have := f2.le; omega) (by omega), f2.I (by have := f1.le; omega) (by unfold WRw; omega)]
          exact hI.2.2 x (by omega)
def WgM (a k : Nat) : Prop := WPM a k ∨ Wgw a k
def AnsF (c : Prop) (v : Nat) (R' : mj_H → Prop) (W : Nat → Nat → Prop) (h : mj_H) : Option Value → mj_H → Prop := fun r h' => (¬ c ∧ r = some (.int (-1)) ∧ Fr W h h') ∨ (c ∧ r = some (.int (nI v)) ∧ R' h' ∧ Fr W h h')
theorem rm_grow_s {S : mj_S} {h : mj_H} (hs : HT h) {K : SK} (hK : KM K h) (hO : KO K) {R : SR} (hR : RM R h) (hRO : RO K.1 R) {P : SP} (hP : PM P h) (hQ : PO K.1 P) {p r w : Int} (hp : -2147483648 ≤ p ∧ p < 2147483648) (hr : -2147483648 ≤ r ∧ r < 2147483648) (hw : -2147483648 ≤ w ∧ w < 2147483648) : Cl S rm_grow [.ref 38, .int (J (p)), .int (J (r)), .int (J (w))] h (AnsF (okGr K R P p r w) (pNp P) (PM (grP P (lvG K R P p.toNat r.toNat w.toNat))) WgM h) := by
  show Ex S rm_grow 0 [some (.ref 38), some (.int (J (p))), some (.int (J (r))), some (.int (J (w))), none, none, none, none, none, none, none] [] h _
  have hnp := hQ.2.2.1
  have hmd : pMd P ≤ 6000 := hQ.1
  have h8 := hRO.1
  refine Ex_aload_n d_rm_grow_0 rfl ?_
  refine Ex_iload_n d_rm_grow_1 rfl ?_
  refine Ex_pV1 (v := .int (bI (decide (0 ≤ p ∧ p < pNp P)))) d_rm_grow_2 pk_rm_grow_187 (t_38 hs) (rm_isPattern_s hs hP.2.1 hQ.2.2.1 hp) ?_
  refine Ex_if_eqB (decide (0 ≤ p ∧ p < pNp P)) 34 d_rm_grow_5 rfl rfl (fun hc5 => ?_) (fun hc5 => ?_)
  · rw [decide_eq_false_iff_not] at hc5
    refine Ex_iconst d_rm_grow_34 ic_m1 ?_
    refine Ex_ireturn d_rm_grow_35 rfl ?_
    refine Or.inl ⟨?_, rfl, Fr.rf⟩
    rintro ⟨z1, z2, z3, z4, z5, z6, z7, -, -⟩
    omega
  · rw [decide_eq_true_eq] at hc5
    refine Ex_aload_n d_rm_grow_8 rfl ?_
    refine Ex_iload_n d_rm_grow_9 rfl ?_
    refine Ex_pV1 (v := .int (bI (decide (0 ≤ r ∧ r < R.1)))) d_rm_grow_10 pk_rm_grow_241 (t_38 hs) (rm_isRule_s hs hR hRO hr) ?_
    refine Ex_if_eqB (decide (0 ≤ r ∧ r < R.1)) 34 d_rm_grow_13 rfl rfl (fun hc13 => ?_) (fun hc13 => ?_)
    · rw [decide_eq_false_iff_not] at hc13
      refine Ex_iconst d_rm_grow_34 ic_m1 ?_
      refine Ex_ireturn d_rm_grow_35 rfl ?_
      refine Or.inl ⟨?_, rfl, Fr.rf⟩
      rintro ⟨z1, z2, z3, z4, z5, z6, z7, -, -⟩
      omega
    · rw [decide_eq_true_eq] at hc13
      refine Ex_iload_n d_rm_grow_16 rfl ?_
      refine Ex_if_ltZ (w) 34 d_rm_grow_17 rfl rfl (by omega) (fun hc17 => ?_) (fun hc17 => ?_)
      · refine Ex_iconst d_rm_grow_34 ic_m1 ?_
        refine Ex_ireturn d_rm_grow_35 rfl ?_
        refine Or.inl ⟨?_, rfl, Fr.rf⟩
        rintro ⟨z1, z2, z3, z4, z5, z6, z7, -, -⟩
        omega
      · refine Ex_iload_n d_rm_grow_20 rfl ?_
        refine Ex_iconst d_rm_grow_21 ic_5 ?_
        refine Ex_icmp_gtZ (w) ((5)) 34 d_rm_grow_22 rfl rfl (by decide) (by omega) (by omega) (fun hc22 => ?_) (fun hc22 => ?_)
        · refine Ex_iconst d_rm_grow_34 ic_m1 ?_
          refine Ex_ireturn d_rm_grow_35 rfl ?_
          refine Or.inl ⟨?_, rfl, Fr.rf⟩
          rintro ⟨z1, z2, z3, z4, z5, z6, z7, -, -⟩
          omega
        · refine Ex_aload_n d_rm_grow_25 rfl ?_
          refine Ex_getIE (y := (nI (pNp P))) d_rm_grow_26 pf_rm_169 rfl (t_38 hs) hP.2.1.1 ?_
          refine Ex_bipush d_rm_grow_29 bp_16 ?_
          refine Ex_icmp_neN (pNp P) (16) 36 d_rm_grow_31 rfl rfl rfl (by omega) (by omega) (fun hc31 => ?_) (fun hc31 => ?_)
          · obtain ⟨p1, rfl⟩ : ∃ p1 : Nat, p = (p1 : Int) := ⟨p.toNat, by omega⟩
            obtain ⟨r1, rfl⟩ : ∃ r1 : Nat, r = (r1 : Int) := ⟨r.toNat, by omega⟩
            obtain ⟨s1, rfl⟩ : ∃ s1 : Nat, w = (s1 : Int) := ⟨w.toNat, by omega⟩
            simp only [← nIJ]
            simp only [Int.toNat_natCast]
            have hp1 : p1 < pNp P := by omega
            have hr1 : r1 < R.1 := by omega
            have hl0 : LO K.1 (lv0 P (pPat P p1)) := lv0_ok hQ (hQ.2.2.2.1 p1 hp1)
            refine Ex_aload_n d_rm_grow_36 rfl ?_
            refine Ex_getR (v := .ref 48) d_rm_grow_37 pf_rm_40 rfl (t_38 hs) (r_38_11 hs) ?_
            refine Ex_iload_n d_rm_grow_40 rfl ?_
            refine Ex_ialoadN (a := p1) (y := (nI ((pPat P p1).length))) d_rm_grow_41 (t_48 hs) rfl (by omega) (by decide) (hP.2.1.2 p1 hp1).1 ?_
            refine Ex_istore [some (.ref 38), some (.int (nI (p1))), some (.int (nI (r1))), some (.int (nI (s1))), some (.int (nI ((pPat P p1).length))), none, none, none, none, none, none] d_rm_grow_42 (Nat.le_of_ble_eq_true rfl) rfl ?_
            refine Ex_iconst d_rm_grow_44 ic_0 ?_
            refine Ex_istore [some (.ref 38), some (.int (nI (p1))), some (.int (nI (r1))), some (.int (nI (s1))), some (.int (nI ((pPat P p1).length))), some (.int (0)), none, none, none, none, none] d_rm_grow_45 (Nat.le_of_ble_eq_true rfl) rfl ?_
            refine rm_grow_L2 hs hP hQ hp1 (fun h1 hI => ?_) (pPat P p1).length 0 (by omega) h ⟨Fr.rf, fun x hx => absurd hx (by omega)⟩
            have f1g : Fr Wgw h h1 := hI.1.mono (by intro a k; unfold Wgw; omega)
            have f1z : Fr WgM h h1 := f1g.mono (fun a k z => Or.inr z)
            have hs1 : HT h1 := f1g.ht hs Wgw_st
            have hK1 := KM_g hs f1g hK
            have hR1 := RM_g hs f1g hR
            have hP1 : PM P h1 := PM_fr hs f1g (by intro a k; unfold WPM Wgw; omega) hP
            refine Ex_iconst d_rm_grow_144 ic_0 ?_
            refine Ex_istore [some (.ref 38), some (.int (nI (p1))), some (.int (nI (r1))), some (.int (nI (s1))), some (.int (nI ((pPat P p1).length))), some (.int (0)), none, none, none, none, none] d_rm_grow_145 (Nat.le_of_ble_eq_true rfl) rfl ?_
            refine Ex_iconst d_rm_grow_147 ic_0 ?_
            refine Ex_istore [some (.ref 38), some (.int (nI (p1))), some (.int (nI (r1))), some (.int (nI (s1))), some (.int (nI ((pPat P p1).length))), some (.int (0)), some (.int (0)), none, none, none, none] d_rm_grow_148 (Nat.le_of_ble_eq_true rfl) rfl ?_
            refine Ex_forget (ls' := [some (.ref 38), some (.int (nI (p1))), some (.int (nI (r1))), some (.int (nI (s1))), some (.int (nI ((pPat P p1).length))), some (.int (0)), some (.int (0)), none, none, none, none]) (sub_s (sub_s (sub_s (sub_s (sub_s (sub_s (sub_s (sub_n (sub_n (sub_n (sub_n sub_0))))))))))) (rm_grow_L3 hs1 hK1 hO hR1 hRO hr1 (s := s1) (by omega) hl0 (fun h2 f2 hex => ?_) (fun h2 hI2 hev => ?_) s1 0 (by omega) (fun u hu => absurd hu (by omega)) h1 ⟨Fr.rf, fun x hx => ?_⟩)
            · refine Or.inl ⟨?_, rfl, f1z.tr (f2.mono (fun a k z => Or.inr z))⟩
              rintro ⟨-, -, -, -, -, -, -, z, -⟩
              obtain ⟨t, ht, hn⟩ := hex
              exact hn (z t ht)
            · have fz : Fr WgM h h2 := f1z.tr (hI2.1.mono (fun a k z => Or.inr z))
              have hs2 : HT h2 := hI2.1.ht hs1 Wgw_st
              have hP2 : PM P h2 := PM_fr hs1 hI2.1 (by intro a k; unfold WPM Wgw; omega) hP1
              have hlt : LO K.1 (lvG K R P p1 r1 s1) := lvN_ok hO hRO hr1 hl0 s1 hev
              have hl60 : gN (lvG K R P p1 r1 s1) ≤ 60 := hlt.1
              refine Ex_iload d_rm_grow_193 rfl ?_
              refine Ex_sipush d_rm_grow_195 sp_6000 ?_
              refine Ex_aload_n d_rm_grow_198 rfl ?_
              refine Ex_getIE (y := (nI (pMd P))) d_rm_grow_199 pf_rm_172 rfl (t_38 hs2) hP2.1.1 ?_
              refine Ex_isubN (6000) (pMd P) d_rm_grow_202 rfl rfl (by omega) ?_
              refine Ex_icmp_leN (gN (lvG K R P p1 r1 s1)) (6000 - (pMd P)) 208 d_rm_grow_203 rfl rfl rfl (by omega) (by omega) (fun hc203 => ?_) (fun hc203 => ?_)
              · refine Ex_aload_n d_rm_grow_208 rfl ?_
                refine Ex_cV0 d_rm_grow_209 pk_rm_grow_248 (t_38 hs2) (rm_pattern_s hs2 hP2 hQ) ?_
                rintro rv h3 hA
                obtain ⟨rfl, hP3, f3⟩ : rv = some (.int (nI (pNp P))) ∧ PM (newPat P []) h3 ∧ Fr WPM h2 h3 := by
                  rcases hA with ⟨z, -, -⟩ | ⟨-, z1, z2, z3⟩
                  · exact absurd (show pNp P < 16 by omega) z
                  · exact ⟨z1, z2, z3⟩
                have hs3 : HT h3 := f3.ht hs2 WPM_st
                have hnn := HT_n hs2
                show Ex S rm_grow 212 [some (.ref 38), some (.int (nI (p1))), some (.int (nI (r1))), some (.int (nI (s1))), some (.int (nI (gN (lvG K R P p1 r1 s1)))), some (.int (nI (s1 % 2))), some (.int (nI (s1))), none, none, none, none] [.int (nI (pNp P))] h3 _
                refine Ex_istore [some (.ref 38), some (.int (nI (p1))), some (.int (nI (r1))), some (.int (nI (s1))), some (.int (nI (gN (lvG K R P p1 r1 s1)))), some (.int (nI (s1 % 2))), some (.int (nI (pNp P))), none, none, none, none] d_rm_grow_212 (Nat.le_of_ble_eq_true rfl) rfl ?_
                refine Ex_aload_n d_rm_grow_214 rfl ?_
                refine Ex_getR (v := .ref 48) d_rm_grow_215 pf_rm_40 rfl (t_38 hs3) (r_38_11 hs3) ?_
                refine Ex_iload d_rm_grow_218 rfl ?_
                refine Ex_iload d_rm_grow_220 rfl ?_
                refine Ex_iastoreN (a := pNp P) d_rm_grow_222 (t_48 hs3) rfl (by omega) (by decide) ?_
                refine Ex_iconst d_rm_grow_223 ic_0 ?_
                refine Ex_istore [some (.ref 38), some (.int (nI (p1))), some (.int (nI (r1))), some (.int (nI (s1))), some (.int (nI (gN (lvG K R P p1 r1 s1)))), some (.int (nI (s1 % 2))), some (.int (nI (pNp P))), some (.int (0)), none, none, none] d_rm_grow_224 (Nat.le_of_ble_eq_true rfl) rfl ?_
                refine Ex_forget (ls' := [some (.ref 38), some (.int (nI (p1))), some (.int (nI (r1))), some (.int (nI (s1))), some (.int (nI (gN (lvG K R P p1 r1 s1)))), some (.int (nI (s1 % 2))), some (.int (nI (pNp P))), some (.int (0)), none, none, none]) (sub_s (sub_s (sub_s (sub_s (sub_s (sub_s (sub_s (sub_s (sub_n (sub_n (sub_n sub_0))))))))))) (rm_grow_L5 (h := (wI h3 48 (pNp P) ((nI (gN (lvG K R P p1 r1 s1)))))) hs3 hQ hlt (by omega) (by omega) (sd := s1 % 2) (by omega) (fun x hx => ?_) (WN_st _) (fun h4 hI4 => ?_) (gN (lvG K R P p1 r1 s1)) 0 (by omega) _ ⟨Fr.rf, ?_, fun x hx => absurd hx (by omega)⟩)
                · obtain ⟨a1, a2, a3⟩ := hI2.2 x hx
                  exact ⟨by rw [mI_oth (Or.inl (by decide)), f3.I (by omega) (by unfold WPM; omega)]; exact a1, by rw [mI_oth (Or.inl (by decide)), f3.I (by omega) (by unfold WPM; omega)]; exact a2, fun k hk => by rw [mI_oth (Or.inl (by decide)), f3.I (by omega) (by unfold WPM; omega)]; exact a3 k hk⟩
                · refine Ex_iload d_rm_grow_331 rfl ?_
                  refine Ex_ireturn d_rm_grow_333 rfl ?_
                  refine Or.inr ⟨⟨by omega, by omega, by omega, by omega, by omega, by omega, by omega, hev, (show gN (lvG K R P p1 r1 s1) ≤ 6000 - pMd P by omega)⟩, rfl, ?_, ?_⟩
                  · obtain ⟨g1, g2, g3, g4⟩ := grR_s P (lvG K R P p1 r1 s1) (gN (lvG K R P p1 r1 s1))
                    have f4 : Fr (fun a k => WRw a k ∨ (a = 47 ∧ 60 * pNp P ≤ k ∧ k < 60 * pNp P + 60)) (wI h3 48 (pNp P) ((nI (gN (lvG K R P p1 r1 s1))))) h4 := hI4.1
                    refine ⟨hI4.2.1, ?_, ?_⟩
                    · have e12 : mI h4 38 12 = nI (pNp P + 1) := by rw [f4.I (by show 38 < mN h3; have := HT_n hs3; omega) (by unfold WRw; omega), mI_oth (Or.inl (by decide))]; exact hP3.2.1.1
                      have e48 : ∀ q, mI h4 48 q = mI (wI h3 48 (pNp P) ((nI (gN (lvG K R P p1 r1 s1))))) 48 q := fun q => f4.I (by show 48 < mN h3; have := HT_n hs3; omega) (by unfold WRw; omega)
                      have e47 : ∀ q x, q ≠ pNp P → x < 60 → mI h4 47 (60 * q + x) = mI h3 47 (60 * q + x) := fun q x hq hx => by rw [f4.I (by show 47 < mN h3; have := HT_n hs3; omega) (by unfold WRw; omega), mI_oth (Or.inl (by decide))]
                      refine ⟨by rw [e12]; show _ = nI (pNp (grR P (lvG K R P p1 r1 s1) (gN (lvG K R P p1 r1 s1))) + 1); rw [g2], fun q hq => ?_⟩
                      have hq : q < pNp (grR P (lvG K R P p1 r1 s1) (gN (lvG K R P p1 r1 s1))) + 1 := hq
                      rw [g2] at hq
                      have ePat : pPat (grP P (lvG K R P p1 r1 s1)) q = if q = pNp P then rgL (pMd P) (gN (lvG K R P p1 r1 s1)) else pPat P q := by
                        show va_up (pPat (grR P (lvG K R P p1 r1 s1) (gN (lvG K R P p1 r1 s1)))) (pNp (grR P (lvG K R P p1 r1 s1) (gN (lvG K R P p1 r1 s1)))) _ q = _
                        rw [g2, g3]
                        rfl
                      rw [ePat]
                      by_cases hqn : q = pNp P
                      · subst hqn
                        rw [if_pos rfl]
                        refine ⟨by rw [e48, mI_self, rgL_len], fun i hi => ?_⟩
                        rw [rgL_len] at hi
                        rw [hI4.2.2 i hi, rgL_get hi]
                      · rw [if_neg hqn]
                        obtain ⟨a1, a2⟩ := hP3.2.1.2 q (show q < pNp P + 1 by omega)
                        have eP : pPat (newPat P []) q = pPat P q := by show va_up (pPat P) (pNp P) [] q = _; unfold va_up; rw [if_neg hqn]
                        rw [eP] at a1 a2
                        have h60 := (hQ.2.2.2.1 q (by omega)).1
                        refine ⟨by rw [e48, mI_oth (Or.inr hqn)]; exact a1, fun i hi => ?_⟩
                        rw [e47 q i hqn (by omega)]
                        exact a2 i hi
                    · have hH3 : HiM (grP P (lvG K R P p1 r1 s1)) h3 := by
                        have z := hP3.2.2
                        unfold HiM at z ⊢
                        rw [show pHi (grP P (lvG K R P p1 r1 s1)) = pHi P from g4]
                        exact z
                      exact HiM_fr hs3 (Fr.tr (Fr.sI (W := fun a k => a ≠ 49 ∧ a ≠ 50 ∧ a ≠ 51 ∧ ¬ (a = 38 ∧ (k = 16 ∨ k = 17))) Fr.rf (by omega)) (f4.mono (by intro a k; unfold WRw; omega))) (by intro a k; unfold WHi; omega) hH3
                  · refine fz.tr ((f3.mono (fun a k z => Or.inl z)).tr (Fr.tr (Fr.sI (W := WgM) Fr.rf (Or.inl (by unfold WPM; omega))) (hI4.1.mono (fun a k z => Or.inl ?_))))
                    unfold WRw at z
                    unfold WPM
                    omega
                · exact RwM_fr (P := newPat P []) hs3 (Fr.sI (W := fun a _ => a = 48) Fr.rf rfl) (by intro a k; unfold WRw; omega) hP3.1
              · refine Ex_iconst d_rm_grow_206 ic_m1 ?_
                refine Ex_ireturn d_rm_grow_207 rfl ?_
                refine Or.inl ⟨?_, rfl, fz⟩
                rintro ⟨-, -, -, -, -, -, -, -, z⟩
                have z : gN (lvG K R P p1 r1 s1) ≤ 6000 - pMd P := z
                omega
            · have z := hI.2 x hx
              show mI h1 60 (60 * (0 % 2) + x) = nI (gL (lv0 P (pPat P p1)) x) ∧ mI h1 61 (60 * (0 % 2) + x) = J (gO (lv0 P (pPat P p1)) x) ∧ ∀ k, k < gL (lv0 P (pPat P p1)) x → mI h1 59 (60 * (60 * (0 % 2) + x) + k) = eM (gX (lv0 P (pPat P p1)) x k)
              simpa using z
          · refine Ex_iconst d_rm_grow_34 ic_m1 ?_
            refine Ex_ireturn d_rm_grow_35 rfl ?_
            refine Or.inl ⟨?_, rfl, Fr.rf⟩
            rintro ⟨z1, z2, z3, z4, z5, z6, z7, -, -⟩
            omega
