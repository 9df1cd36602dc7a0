/-! The class: grownCell, mayGrow, growsStraight, grownRow. -/
def Src (P : SP) (l : List Nat) (L : LV) : Prop := gN L = l.length ∧ ∀ u, u < l.length → pL P (l.getD u 0) = gL L u ∧ pO P (l.getD u 0) = gO L u ∧ ∀ v, v < gL L u → pC P (l.getD u 0) v = gX L u v
def PuB (p : Prop) (h : mj_H) : Option Value → mj_H → Prop := fun r h1 => h1 = h ∧ ∃ v : Bool, r = some (.int (bI v)) ∧ (v = true ↔ p)
theorem PuB_t {p : Prop} {h : mj_H} (hp : p) : PuB p h (some (.int 1)) h := ⟨rfl, true, rfl, by simp [hp]⟩
theorem PuB_f {p : Prop} {h : mj_H} (hp : ¬ p) : PuB p h (some (.int 0)) h := ⟨rfl, false, rfl, by simp [hp]⟩
theorem ob {o : Int} {c : Nat} (h : -30 ≤ o ∧ o ≤ 30) (hc : c ≤ 1024) : -30720 ≤ o * (c : Int) ∧ o * (c : Int) ≤ 30720 := by
  have h1 := Int.mul_le_mul_of_nonneg_right (c := (c : Int)) h.2 (by omega)
  have h2 := Int.mul_le_mul_of_nonneg_right (c := (c : Int)) h.1 (by omega)
  omega
theorem eW_3 {n : Nat} {w : Option Tl} (h : okW n w) (hn : n ≤ 40) : eW w = -3 ↔ w = none := by
  match w, h with
  | none, _ => simp [eW]
  | some none, _ =>
    constructor
    · intro z
      exact absurd z (by decide)
    · intro z
      cases z
  | some (some (k, m, s)), h =>
    constructor
    · intro z
      have hb : k < 40 ∧ m < 8 ∧ s < 65536 := ⟨Nat.lt_of_lt_of_le h.1 hn, h.2.1, h.2.2⟩
      have z : nI (k * 524288 + (m * 65536 + s)) = -3 := z
      exact absurd (show nI (k * 524288 + (m * 65536 + s)) < 0 by rw [z]; decide) (nI_nonneg (by omega))
    · intro z
      cases z
section GSRC
variable {S : mj_S} {h : mj_H} {P : SP} {Y : OW} {n x y : Nat} {l : List Nat} {L : LV}
theorem pa_len_u (hs : HT h) (hR : RwC P Y h) (hQ : PO n P) (hB : Pob h x y l) (hl : okL (pMd P) l) (hS : Src P l L) {u : Nat} (hu : u < l.length) : Cl S pa_lengthAt [.ref x, .int (nI u)] h (Pu (.int (nI (gL L u))) h) := by
  have h60 := hl.1
  have z := pa_lengthAt_s (S := S) hs hR hQ hB hl (i := (u : Int)) (by omega)
  rw [show lnS P l (u : Int) = gL L u by unfold lnS; rw [if_pos (by omega), Int.toNat_natCast]; exact (hS.2 u hu).1, ← nIJ] at z
  exact z
theorem pa_off_u (hs : HT h) (hR : RwC P Y h) (hQ : PO n P) (hB : Pob h x y l) (hl : okL (pMd P) l) (hS : Src P l L) {u : Nat} (hu : u < l.length) : Cl S pa_offsetAt [.ref x, .int (nI u)] h (Pu (.int (J (gO L u))) h) := by
  have h60 := hl.1
  have z := pa_offsetAt_s (S := S) hs hR hQ hB hl (i := (u : Int)) (by omega)
  rw [show ofS P l (u : Int) = gO L u by unfold ofS; rw [if_pos (by omega), Int.toNat_natCast]; exact (hS.2 u hu).2.1, ← nIJ] at z
  exact z
theorem pa_cell_u (hs : HT h) (hR : RwC P Y h) (hQ : PO n P) (hB : Pob h x y l) (hl : okL (pMd P) l) (hS : Src P l L) {u v : Nat} (hu : u < l.length) (hv : v < gL L u) : Cl S pa_cellAt [.ref x, .long (JL (u : Int)), .long (JL (gO L u + (v : Int)))] h (Pu (.int (eC (gX L u v))) h) := by
  have h60 := hl.1
  obtain ⟨s1, s2, s3⟩ := hS.2 u hu
  have hro := hQ.2.1 _ (hl.2 _ (getD_mem hu))
  rw [s1, s2] at hro
  have z := pa_cellAt_s (S := S) hs hR hQ hB hl (i := (u : Int)) (j := gO L u + (v : Int)) (by omega) (by omega)
  rw [show lAt P l (u : Int) (gO L u + (v : Int)) = some (gX L u v) by unfold lAt; rw [if_pos (by omega), Int.toNat_natCast]; unfold rAt; rw [s1, s2, if_pos (by omega), show (gO L u + (v : Int) - gO L u).toNat = v by omega, s3 v hv]] at z
  exact z
end GSRC
theorem Src_LO {n : Nat} {P : SP} {l : List Nat} {L : LV} (hQ : PO n P) (hl : okL (pMd P) l) (hS : Src P l L) : LO n L := by
  refine ⟨by rw [hS.1]; exact hl.1, fun u hu => ?_⟩
  rw [hS.1] at hu
  obtain ⟨s1, s2, s3⟩ := hS.2 u hu
  have hro := hQ.2.1 _ (hl.2 _ (getD_mem hu))
  rw [s1, s2] at hro
  exact ⟨⟨hro.1, hro.2.1, hro.2.2.1⟩, fun k hk => by rw [← s3 k hk]; exact hro.2.2.2 k hk⟩
theorem to_grownCell_L {S : mj_S} {h : mj_H} (hs : HT h) {K : SK} (hK : KC K h) (hO : KO K) {R : SR} {Y : OW} (hRO : RO K.1 R) {r a b c d : Nat} (hr : r < R.1) (hx : RuC1 R Y h r a b c d) {P : SP} (hR : RwC P Y h) (hQ : PO K.1 P) {x y : Nat} {l : List Nat} (hB : Pob h x y l) (hl : okL (pMd P) l) {L : LV} (hS : Src P l L) {s : Nat} (hs5 : s ≤ 5) {i k : Nat} (hi : i < l.length * rR R r ^ s) (hk : k < gL L (i / rR R r ^ s) * rC R r ^ s) {j : Int} (hj : j = gO L (i / rR R r ^ s) * ((rC R r ^ s : Nat) : Int) + (k : Int)) : ∀ M, M ≤ s → okW K.1 (lw K R r (gX L) (s - M) (i / rR R r ^ M) (k / rC R r ^ M)) → Ex S to_grownCell 45 [some (.ref 0), some (.ref (x)), some (.ref (a)), some (.int (nI (s))), some (.int (nI (i))), some (.int (J (j))), some (.int (nI ((rR R r) ^ M))), some (.int (nI ((rC R r) ^ M))), some (.int (eW (lw K R r (gX L) (s - M) (i / rR R r ^ M) (k / rC R r ^ M)))), some (.int (J (((M : Nat) : Int) - 1))), none, none] [] h (Pu (.int (eW (lw K R r (gX L) s i k))) h) := by
  obtain ⟨hz1, hz2⟩ := hRO.2 r hr
  have hl60 := hl.1
  have hsR := pw_b (a := rR R r) (by omega) hs5
  have hsC := pw_b (a := rC R r) (by omega) hs5
  have hLO := Src_LO hQ hl hS
  have hN := hS.1
  have hi60 : l.length * rR R r ^ s ≤ 60 * 1024 := mul_le hl60 hsR.2
  have hu0 : i / rR R r ^ s < l.length := by rw [Nat.div_lt_iff_lt_mul (by omega)]; exact hi
  obtain ⟨u, hu⟩ : ∃ u, i / rR R r ^ s = u := ⟨_, rfl⟩
  rw [hu] at hu0 hk hj
  have hLu := (hLO.2 u (by omega)).1
  have hk60 : gL L u * rC R r ^ s ≤ 60 * 1024 := mul_le (by omega) hsC.2
  have hob := ob (o := gO L u) (c := rC R r ^ s) (by omega) hsC.2
  intro M
  induction M with
  | zero =>
    intro hM hw
    show Ex S to_grownCell 45 [some (.ref 0), some (.ref (x)), some (.ref (a)), some (.int (nI (s))), some (.int (nI (i))), some (.int (J (j))), some (.int (nI ((rR R r) ^ 0))), some (.int (nI ((rC R r) ^ 0))), some (.int (eW (lw K R r (gX L) (s - 0) (i / rR R r ^ 0) (k / rC R r ^ 0)))), some (.int (J (-1))), none, none] [] h _
    refine Ex_iload d_to_grownCell_45 rfl ?_
    refine Ex_if_ltZ (-1) 116 d_to_grownCell_47 rfl rfl (by omega) (fun hc47 => ?_) (fun hc47 => ?_)
    · refine Ex_iload d_to_grownCell_116 rfl ?_
      refine Ex_ireturn d_to_grownCell_118 rfl ?_
      refine ⟨?_, rfl⟩
      rw [Nat.pow_zero, Nat.pow_zero, Nat.div_one, Nat.div_one, Nat.sub_zero]
    · exfalso; omega
  | succ M ih =>
    intro hM hw
    rw [show (((M + 1 : Nat)) : Int) - 1 = (M : Int) by omega, ← nIJ M]
    have hbR := pw_b (a := rR R r) (by omega) (show M ≤ 5 by omega)
    have hbC := pw_b (a := rC R r) (by omega) (show M ≤ 5 by omega)
    have hbR1 := pw_b (a := rR R r) (by omega) (show M + 1 ≤ 5 by omega)
    have hbC1 := pw_b (a := rC R r) (by omega) (show M + 1 ≤ 5 by omega)
    have hfm : j % ((rC R r ^ (M + 1) : Nat) : Int) = ((k % rC R r ^ (M + 1) : Nat) : Int) := by
      have e1 : (rC R r ^ s : Nat) = rC R r ^ (M + 1) * rC R r ^ (s - (M + 1)) := by rw [← Nat.pow_add, show M + 1 + (s - (M + 1)) = s by omega]
      rw [hj, e1, Int.natCast_mul, Int.add_comm, ← Int.mul_assoc, Int.mul_comm (gO L u), Int.mul_assoc, Int.add_mul_emod_self_left]
      rfl
    have q1 : i % rR R r ^ (M + 1) / rR R r ^ M = i / rR R r ^ M % rR R r := by rw [Nat.pow_succ]; exact Nat.mod_mul_right_div_self ..
    have q2 : k % rC R r ^ (M + 1) / rC R r ^ M = k / rC R r ^ M % rC R r := by rw [Nat.pow_succ]; exact Nat.mod_mul_right_div_self ..
    have hst : chW K R r (lw K R r (gX L) (s - (M + 1)) (i / rR R r ^ (M + 1)) (k / rC R r ^ (M + 1))) (i % rR R r ^ (M + 1) / rR R r ^ M) (k % rC R r ^ (M + 1) / rC R r ^ M) = lw K R r (gX L) (s - M) (i / rR R r ^ M) (k / rC R r ^ M) := by
      rw [q1, q2, show s - M = s - (M + 1) + 1 by omega, Nat.pow_succ, Nat.pow_succ, ← Nat.div_div_eq_div_mul, ← Nat.div_div_eq_div_mul]
      rfl
    have q3 : i % rR R r ^ (M + 1) / rR R r ^ M < rR R r := by rw [q1]; exact Nat.mod_lt _ (by omega)
    have q4 : k % rC R r ^ (M + 1) / rC R r ^ M < rC R r := by rw [q2]; exact Nat.mod_lt _ (by omega)
    have q5 := Nat.mod_lt i (show 0 < rR R r ^ (M + 1) by omega)
    have q6 := Nat.mod_lt k (show 0 < rC R r ^ (M + 1) by omega)
    have hokn := chW_ok hO hRO hr hw q3 q4
    rw [hst] at hokn
    refine Ex_iload d_to_grownCell_45 rfl ?_
    refine Ex_if_ltN (M) 116 d_to_grownCell_47 rfl rfl (by omega) (fun hc47 => ?_) (fun hc47 => ?_)
    · exfalso; omega
    · refine Ex_iload d_to_grownCell_50 rfl ?_
      refine Ex_iload d_to_grownCell_52 rfl ?_
      refine Ex_iremN (i) ((rR R r) ^ (M + 1)) d_to_grownCell_54 rfl rfl (by omega) (by omega) ?_
      refine Ex_istore [some (.ref 0), some (.ref (x)), some (.ref (a)), some (.int (nI (s))), some (.int (nI (i))), some (.int (J (j))), some (.int (nI ((rR R r) ^ (M + 1)))), some (.int (nI ((rC R r) ^ (M + 1)))), some (.int (eW (lw K R r (gX L) (s - (M + 1)) (i / rR R r ^ (M + 1)) (k / rC R r ^ (M + 1))))), some (.int (nI (M))), some (.int (nI (i % ((rR R r) ^ (M + 1))))), none] d_to_grownCell_55 (Nat.le_of_ble_eq_true rfl) rfl ?_
      refine Ex_iload d_to_grownCell_57 rfl ?_
      refine Ex_iload d_to_grownCell_59 rfl ?_
      refine Ex_pS2 (v := .int (nI (k % (rC R r) ^ (M + 1)))) d_to_grownCell_61 pk_to_grownCell_307 (by rw [nIJ (k % rC R r ^ (M + 1)), ← hfm]; exact jd_floorMod_s (by omega) (by omega)) ?_
      refine Ex_istore [some (.ref 0), some (.ref (x)), some (.ref (a)), some (.int (nI (s))), some (.int (nI (i))), some (.int (J (j))), some (.int (nI ((rR R r) ^ (M + 1)))), some (.int (nI ((rC R r) ^ (M + 1)))), some (.int (eW (lw K R r (gX L) (s - (M + 1)) (i / rR R r ^ (M + 1)) (k / rC R r ^ (M + 1))))), some (.int (nI (M))), some (.int (nI (i % ((rR R r) ^ (M + 1))))), some (.int (nI (k % (rC R r) ^ (M + 1))))] d_to_grownCell_64 (Nat.le_of_ble_eq_true rfl) rfl ?_
      refine Ex_aload_n d_to_grownCell_66 rfl ?_
      refine Ex_getIE (y := (nI (rR R r))) d_to_grownCell_67 pf_to_279 rfl hx.2.1.2.1 hx.2.2.1 ?_
      refine Ex_iload d_to_grownCell_70 rfl ?_
      refine Ex_pS2 (v := .int (nI ((rR R r) ^ M))) d_to_grownCell_72 pk_to_grownCell_280 (to_power_s (by omega) (by omega)) ?_
      refine Ex_istore [some (.ref 0), some (.ref (x)), some (.ref (a)), some (.int (nI (s))), some (.int (nI (i))), some (.int (J (j))), some (.int (nI ((rR R r) ^ M))), some (.int (nI ((rC R r) ^ (M + 1)))), some (.int (eW (lw K R r (gX L) (s - (M + 1)) (i / rR R r ^ (M + 1)) (k / rC R r ^ (M + 1))))), some (.int (nI (M))), some (.int (nI (i % ((rR R r) ^ (M + 1))))), some (.int (nI (k % (rC R r) ^ (M + 1))))] d_to_grownCell_75 (Nat.le_of_ble_eq_true rfl) rfl ?_
      refine Ex_aload_n d_to_grownCell_77 rfl ?_
      refine Ex_getIE (y := (nI (rC R r))) d_to_grownCell_78 pf_to_283 rfl hx.2.1.2.1 hx.2.2.2.1 ?_
      refine Ex_iload d_to_grownCell_81 rfl ?_
      refine Ex_pS2 (v := .int (nI ((rC R r) ^ M))) d_to_grownCell_83 pk_to_grownCell_280 (to_power_s (by omega) (by omega)) ?_
      refine Ex_istore [some (.ref 0), some (.ref (x)), some (.ref (a)), some (.int (nI (s))), some (.int (nI (i))), some (.int (J (j))), some (.int (nI ((rR R r) ^ M))), some (.int (nI ((rC R r) ^ M))), some (.int (eW (lw K R r (gX L) (s - (M + 1)) (i / rR R r ^ (M + 1)) (k / rC R r ^ (M + 1))))), some (.int (nI (M))), some (.int (nI (i % ((rR R r) ^ (M + 1))))), some (.int (nI (k % (rC R r) ^ (M + 1))))] d_to_grownCell_86 (Nat.le_of_ble_eq_true rfl) rfl ?_
      refine Ex_aload_n d_to_grownCell_88 rfl ?_
      refine Ex_iload d_to_grownCell_89 rfl ?_
      refine Ex_iload d_to_grownCell_91 rfl ?_
      refine Ex_iload d_to_grownCell_93 rfl ?_
      refine Ex_idivN (i % ((rR R r) ^ (M + 1))) ((rR R r) ^ M) d_to_grownCell_95 rfl rfl (by omega) (by omega) ?_
      refine Ex_iload d_to_grownCell_96 rfl ?_
      refine Ex_iload d_to_grownCell_98 rfl ?_
      refine Ex_idivN (k % (rC R r) ^ (M + 1)) ((rC R r) ^ M) d_to_grownCell_100 rfl rfl (by omega) (by omega) ?_
      refine Ex_aload_n d_to_grownCell_101 rfl ?_
      refine Ex_getR (v := .ref 1) d_to_grownCell_102 pf_to_20 rfl (t_0 hs) (r_0_0 hs) ?_
      refine Ex_pV4 (v := .int (eW (lw K R r (gX L) (s - M) (i / rR R r ^ M) (k / rC R r ^ M)))) d_to_grownCell_105 pk_to_grownCell_310 hx.2.1.2.1 (by rw [← hst]; exact ru_childOf_s hs hK hO hRO hr hx hw q3 q4) ?_
      refine Ex_istore [some (.ref 0), some (.ref (x)), some (.ref (a)), some (.int (nI (s))), some (.int (nI (i))), some (.int (J (j))), some (.int (nI ((rR R r) ^ M))), some (.int (nI ((rC R r) ^ M))), some (.int (eW (lw K R r (gX L) (s - M) (i / rR R r ^ M) (k / rC R r ^ M)))), some (.int (nI (M))), some (.int (nI (i % ((rR R r) ^ (M + 1))))), some (.int (nI (k % (rC R r) ^ (M + 1))))] d_to_grownCell_108 (Nat.le_of_ble_eq_true rfl) rfl ?_
      refine Ex_iincZ (((M : Nat) : Int)) (-1) [some (.ref 0), some (.ref (x)), some (.ref (a)), some (.int (nI (s))), some (.int (nI (i))), some (.int (J (j))), some (.int (nI ((rR R r) ^ M))), some (.int (nI ((rC R r) ^ M))), some (.int (eW (lw K R r (gX L) (s - M) (i / rR R r ^ M) (k / rC R r ^ M)))), some (.int (J ((((M : Nat) : Int)) + (-1)))), some (.int (nI (i % ((rR R r) ^ (M + 1))))), some (.int (nI (k % (rC R r) ^ (M + 1))))] d_to_grownCell_110 rfl (nIJ _) (by decide) rfl ?_
      rw [show ((J ((((M : Nat) : Int)) + (-1))) : Int32) = (J ((M : Int) - 1)) from (by congr 1)]
      refine Ex_goto 45 d_to_grownCell_113 rfl ?_
      refine Ex_forget (ls' := [some (.ref 0), some (.ref (x)), some (.ref (a)), some (.int (nI (s))), some (.int (nI (i))), some (.int (J (j))), some (.int (nI ((rR R r) ^ M))), some (.int (nI ((rC R r) ^ M))), some (.int (eW (lw K R r (gX L) (s - M) (i / rR R r ^ M) (k / rC R r ^ M)))), some (.int (J ((M : Int) - 1))), none, none]) (sub_s (sub_s (sub_s (sub_s (sub_s (sub_s (sub_s (sub_s (sub_s (sub_s (sub_n (sub_n sub_0)))))))))))) ?_
      exact ih (by omega) hokn
theorem to_grownCell_s {S : mj_S} {h : mj_H} (hs : HT h) {K : SK} (hK : KC K h) (hO : KO K) {R : SR} {Y : OW} (hRO : RO K.1 R) {r a b c d : Nat} (hr : r < R.1) (hx : RuC1 R Y h r a b c d) {P : SP} (hR : RwC P Y h) (hQ : PO K.1 P) {x y : Nat} {l : List Nat} (hB : Pob h x y l) (hl : okL (pMd P) l) {L : LV} (hS : Src P l L) {s : Nat} (hs5 : s ≤ 5) {i k : Nat} (hi : i < l.length * rR R r ^ s) (hk : k < gL L (i / rR R r ^ s) * rC R r ^ s) {j : Int} (hj : j = gO L (i / rR R r ^ s) * ((rC R r ^ s : Nat) : Int) + (k : Int)) : Cl S to_grownCell [.ref 0, .ref (x), .ref (a), .int (nI (s)), .int (nI (i)), .int (J (j))] h (Pu (.int (eW (lw K R r (gX L) s i k))) h) := by
  show Ex S to_grownCell 0 [some (.ref 0), some (.ref (x)), some (.ref (a)), some (.int (nI (s))), some (.int (nI (i))), some (.int (J (j))), none, none, none, none, none, none] [] h _
  obtain ⟨hz1, hz2⟩ := hRO.2 r hr
  have hl60 := hl.1
  have hsR := pw_b (a := rR R r) (by omega) hs5
  have hsC := pw_b (a := rC R r) (by omega) hs5
  have hLO := Src_LO hQ hl hS
  have hN := hS.1
  have hi60 : l.length * rR R r ^ s ≤ 60 * 1024 := mul_le hl60 hsR.2
  have hu0 : i / rR R r ^ s < l.length := by rw [Nat.div_lt_iff_lt_mul (by omega)]; exact hi
  obtain ⟨u, hu⟩ : ∃ u, i / rR R r ^ s = u := ⟨_, rfl⟩
  rw [hu] at hu0 hk hj
  have hLu := (hLO.2 u (by omega)).1
  have hk60 : gL L u * rC R r ^ s ≤ 60 * 1024 := mul_le (by omega) hsC.2
  have hob := ob (o := gO L u) (c := rC R r ^ s) (by omega) hsC.2
  have hv0 : k / rC R r ^ s < gL L u := by rw [Nat.div_lt_iff_lt_mul (by omega)]; exact hk
  obtain ⟨v, hv⟩ : ∃ v, k / rC R r ^ s = v := ⟨_, rfl⟩
  rw [hv] at hv0
  have hfd : gO L u + (v : Int) = j / ((rC R r ^ s : Nat) : Int) := by
    have hc0 : ((rC R r ^ s : Nat) : Int) ≠ 0 := by omega
    rw [hj, Int.add_comm (gO L u * ((rC R r ^ s : Nat) : Int)), Int.add_mul_ediv_right _ _ hc0, ← hv, Int.add_comm]
    rfl
  refine Ex_aload_n d_to_grownCell_0 rfl ?_
  refine Ex_getIE (y := (nI (rR R r))) d_to_grownCell_1 pf_to_279 rfl hx.2.1.2.1 hx.2.2.1 ?_
  refine Ex_iload_n d_to_grownCell_4 rfl ?_
  refine Ex_pS2 (v := .int (nI ((rR R r) ^ s))) d_to_grownCell_5 pk_to_grownCell_280 (to_power_s (by omega) (by omega)) ?_
  refine Ex_istore [some (.ref 0), some (.ref (x)), some (.ref (a)), some (.int (nI (s))), some (.int (nI (i))), some (.int (J (j))), some (.int (nI ((rR R r) ^ s))), none, none, none, none, none] d_to_grownCell_8 (Nat.le_of_ble_eq_true rfl) rfl ?_
  refine Ex_aload_n d_to_grownCell_10 rfl ?_
  refine Ex_getIE (y := (nI (rC R r))) d_to_grownCell_11 pf_to_283 rfl hx.2.1.2.1 hx.2.2.2.1 ?_
  refine Ex_iload_n d_to_grownCell_14 rfl ?_
  refine Ex_pS2 (v := .int (nI ((rC R r) ^ s))) d_to_grownCell_15 pk_to_grownCell_280 (to_power_s (by omega) (by omega)) ?_
  refine Ex_istore [some (.ref 0), some (.ref (x)), some (.ref (a)), some (.int (nI (s))), some (.int (nI (i))), some (.int (J (j))), some (.int (nI ((rR R r) ^ s))), some (.int (nI ((rC R r) ^ s))), none, none, none, none] d_to_grownCell_18 (Nat.le_of_ble_eq_true rfl) rfl ?_
  refine Ex_aload_n d_to_grownCell_20 rfl ?_
  refine Ex_iload d_to_grownCell_21 rfl ?_
  refine Ex_iload d_to_grownCell_23 rfl ?_
  refine Ex_idivN (i) ((rR R r) ^ s) d_to_grownCell_25 rfl rfl (by omega) (by omega) ?_
  rw [show ((nI (i / ((rR R r) ^ s))) : Int32) = (nI (u)) from (by rw [hu])]
  refine Ex_i2lZ (((u : Nat) : Int)) d_to_grownCell_26 (nIJ _) (by omega) ?_
  refine Ex_iload d_to_grownCell_27 rfl ?_
  refine Ex_iload d_to_grownCell_29 rfl ?_
  refine Ex_pS2 (v := .int (J (gO L u + (v : Int)))) d_to_grownCell_31 pk_to_grownCell_304 (by rw [hfd]; exact jd_floorDiv_s (by omega) (by omega)) ?_
  refine Ex_i2lZ (gO L u + (v : Int)) d_to_grownCell_34 rfl (by omega) ?_
  refine Ex_pV2 (v := .int (eC (gX L u v))) d_to_grownCell_35 pk_to_grownCell_186 hB.1.1 (pa_cell_u hs hR hQ hB hl hS hu0 hv0) ?_
  refine Ex_istore [some (.ref 0), some (.ref (x)), some (.ref (a)), some (.int (nI (s))), some (.int (nI (i))), some (.int (J (j))), some (.int (nI ((rR R r) ^ s))), some (.int (nI ((rC R r) ^ s))), some (.int (eC (gX L u v))), none, none, none] d_to_grownCell_38 (Nat.le_of_ble_eq_true rfl) rfl ?_
  refine Ex_iload_n d_to_grownCell_40 rfl ?_
  refine Ex_iconst d_to_grownCell_41 ic_1 ?_
  refine Ex_isubZ (((s : Nat) : Int)) ((1)) d_to_grownCell_42 (nIJ _) (by decide) ?_
  refine Ex_istore [some (.ref 0), some (.ref (x)), some (.ref (a)), some (.int (nI (s))), some (.int (nI (i))), some (.int (J (j))), some (.int (nI ((rR R r) ^ s))), some (.int (nI ((rC R r) ^ s))), some (.int (eC (gX L u v))), some (.int (J ((((s : Nat) : Int)) - ((1))))), none, none] d_to_grownCell_43 (Nat.le_of_ble_eq_true rfl) rfl ?_
  have hb0 : lw K R r (gX L) (s - s) (i / rR R r ^ s) (k / rC R r ^ s) = some (gX L u v) := by rw [Nat.sub_self, hu, hv]; rfl
  rw [show eC (gX L u v) = eW (lw K R r (gX L) (s - s) (i / rR R r ^ s) (k / rC R r ^ s)) by rw [hb0]; rfl]
  refine to_grownCell_L hs hK hO hRO hr hx hR hQ hB hl hS hs5 hi (by rw [hu]; exact hk) (by rw [hu]; exact hj) s (Nat.le_refl _) (by rw [hb0]; exact (hLO.2 u (by omega)).2 v hv0)
theorem pa_mayGrow_L {S : mj_S} {h : mj_H} (hs : HT h) {P : SP} {Y : OW} (hR : RwC P Y h) {n : Nat} (hQ : PO n P) {x y : Nat} {l : List Nat} (hB : Pob h x y l) (hl : okL (pMd P) l) {L : LV} (hS : Src P l L) {D A : Nat} (hD : D ≤ 1024) (hA : A ≤ 1024) : ∀ e i : Nat, i + e = l.length → (∀ u, u < i → (gL L u * A ≤ 60 ∧ -30 ≤ gO L u * (A : Int) ∧ gO L u * (A : Int) ≤ 30)) → Ex S pa_mayGrow 2 [some (.ref (x)), some (.int (nI (D))), some (.int (nI (A))), some (.int (nI (i)))] [] h (PuB (l.length * D ≤ 60 ∧ ∀ i, i < l.length → (gL L i * A ≤ 60 ∧ -30 ≤ gO L i * (A : Int) ∧ gO L i * (A : Int) ≤ 30)) h) := by
  have hl60 := hl.1
  have hLO := Src_LO hQ hl hS
  have hN := hS.1
  have hb60 : l.length * D ≤ 60 * 1024 := mul_le hl60 hD
  intro e
  induction e with
  | zero =>
    intro i hie hev
    obtain rfl : l.length = i := by omega
    refine Ex_iload_n d_pa_mayGrow_2 rfl ?_
    refine Ex_aload_n d_pa_mayGrow_3 rfl ?_
    refine Ex_getIE (y := (nI (l.length))) d_pa_mayGrow_4 pf_pa_19 rfl hB.1.1 hB.2.1 ?_
    refine Ex_icmp_geN (l.length) (l.length) 38 d_pa_mayGrow_7 rfl rfl rfl (by omega) (by omega) (fun hc7 => ?_) (fun hc7 => ?_)
    · refine Ex_aload_n d_pa_mayGrow_38 rfl ?_
      refine Ex_getIE (y := (nI (l.length))) d_pa_mayGrow_39 pf_pa_19 rfl hB.1.1 hB.2.1 ?_
      refine Ex_iload_n d_pa_mayGrow_42 rfl ?_
      refine Ex_imulN (l.length) (D) d_pa_mayGrow_43 rfl rfl ?_
      refine Ex_bipush d_pa_mayGrow_44 bp_60 ?_
      refine Ex_icmp_gtN (l.length * D) (60) 53 d_pa_mayGrow_46 rfl rfl rfl (by omega) (by omega) (fun hc46 => ?_) (fun hc46 => ?_)
      · refine Ex_iconst d_pa_mayGrow_53 ic_0 ?_
        refine Ex_zreturn d_pa_mayGrow_54 rfl (by decide) ?_
        exact PuB_f (fun z => by have := z.1; omega)
      · refine Ex_iconst d_pa_mayGrow_49 ic_1 ?_
        refine Ex_goto 54 d_pa_mayGrow_50 rfl ?_
        refine Ex_zreturn d_pa_mayGrow_54 rfl (by decide) ?_
        exact PuB_t ⟨by omega, hev⟩
    · exfalso; omega
  | succ e ih =>
    intro i hie hev
    have hli := (hLO.2 i (by omega)).1
    have hob := ob (o := gO L i) (c := A) (by omega) hA
    have hgb : gL L i * A ≤ 60 * 1024 := mul_le (by omega) hA
    refine Ex_iload_n d_pa_mayGrow_2 rfl ?_
    refine Ex_aload_n d_pa_mayGrow_3 rfl ?_
    refine Ex_getIE (y := (nI (l.length))) d_pa_mayGrow_4 pf_pa_19 rfl hB.1.1 hB.2.1 ?_
    refine Ex_icmp_geN (i) (l.length) 38 d_pa_mayGrow_7 rfl rfl rfl (by omega) (by omega) (fun hc7 => ?_) (fun hc7 => ?_)
    · exfalso; omega
    · refine Ex_aload_n d_pa_mayGrow_10 rfl ?_
      refine Ex_iload_n d_pa_mayGrow_11 rfl ?_
      refine Ex_pV1 (v := .int (nI (gL L i))) d_pa_mayGrow_12 pk_pa_mayGrow_56 hB.1.1 (pa_len_u hs hR hQ hB hl hS (by omega)) ?_
      refine Ex_iload_n d_pa_mayGrow_15 rfl ?_
      refine Ex_imulN (gL L i) (A) d_pa_mayGrow_16 rfl rfl ?_
      refine Ex_aload_n d_pa_mayGrow_17 rfl ?_
      refine Ex_iload_n d_pa_mayGrow_18 rfl ?_
      refine Ex_pV1 (v := .int (J (gO L i))) d_pa_mayGrow_19 pk_pa_mayGrow_53 hB.1.1 (pa_off_u hs hR hQ hB hl hS (by omega)) ?_
      refine Ex_iload_n d_pa_mayGrow_22 rfl ?_
      refine Ex_imulZ (gO L i) (((A : Nat) : Int)) d_pa_mayGrow_23 rfl (nIJ _) ?_
      refine Ex_pS2 (v := .int (bI (decide (0 ≤ ((gL L i * A : Nat) : Int) ∧ ((gL L i * A : Nat) : Int) ≤ 60 ∧ -30 ≤ gO L i * (A : Int) ∧ gO L i * (A : Int) ≤ 30)))) d_pa_mayGrow_24 pk_pa_mayGrow_59 (by rw [nIJ (gL L i * A)]; exact rs_mayBe_s (by omega) (by omega)) ?_
      refine Ex_if_neB (decide (0 ≤ ((gL L i * A : Nat) : Int) ∧ ((gL L i * A : Nat) : Int) ≤ 60 ∧ -30 ≤ gO L i * (A : Int) ∧ gO L i * (A : Int) ≤ 30)) 32 d_pa_mayGrow_27 rfl rfl (fun hc27 => ?_) (fun hc27 => ?_)
      · rw [decide_eq_true_eq] at hc27
        refine Ex_iincN (i) 1 [some (.ref (x)), some (.int (nI (D))), some (.int (nI (A))), some (.int (nI (i + 1)))] d_pa_mayGrow_32 rfl rfl rfl rfl ?_
        refine Ex_goto 2 d_pa_mayGrow_35 rfl ?_
        refine ih (i + 1) (by omega) (fun u hu => ?_)
        by_cases hui : u = i
        · rw [hui]; omega
        · exact hev u (by omega)
      · rw [decide_eq_false_iff_not] at hc27
        refine Ex_iconst d_pa_mayGrow_30 ic_0 ?_
        refine Ex_zreturn d_pa_mayGrow_31 rfl (by decide) ?_
        exact PuB_f (fun z => by have := z.2 i (by omega); omega)
theorem pa_mayGrow_s {S : mj_S} {h : mj_H} (hs : HT h) {P : SP} {Y : OW} (hR : RwC P Y h) {n : Nat} (hQ : PO n P) {x y : Nat} {l : List Nat} (hB : Pob h x y l) (hl : okL (pMd P) l) {L : LV} (hS : Src P l L) {D A : Nat} (hD : D ≤ 1024) (hA : A ≤ 1024) : Cl S pa_mayGrow [.ref (x), .int (nI (D)), .int (nI (A))] h (PuB (l.length * D ≤ 60 ∧ ∀ i, i < l.length → (gL L i * A ≤ 60 ∧ -30 ≤ gO L i * (A : Int) ∧ gO L i * (A : Int) ≤ 30)) h) := by
  show Ex S pa_mayGrow 0 [some (.ref (x)), some (.int (nI (D))), some (.int (nI (A))), none] [] h _
  refine Ex_iconst d_pa_mayGrow_0 ic_0 ?_
  refine Ex_istore_n [some (.ref (x)), some (.int (nI (D))), some (.int (nI (A))), some (.int (0))] d_pa_mayGrow_1 (Nat.le_of_ble_eq_true rfl) rfl ?_
  exact pa_mayGrow_L hs hR hQ hB hl hS hD hA l.length 0 (by omega) (fun u hu => absurd hu (by omega))
theorem lw_ok {K : SK} (hO : KO K) {R : SR} (hRO : RO K.1 R) {r : Nat} (hr : r < R.1) {f : Nat → Nat → Tl} : ∀ (t : Nat) {i k : Nat}, okT K.1 (f (i / rR R r ^ t) (k / rC R r ^ t)) → okW K.1 (lw K R r f t i k)
  | 0, i, k, h => by
    rw [Nat.pow_zero, Nat.pow_zero, Nat.div_one, Nat.div_one] at h
    exact h
  | t + 1, i, k, h => by
    have hz := (hRO.2 r hr).1
    refine chW_ok hO hRO hr (lw_ok hO hRO hr t ?_) (Nat.mod_lt _ (by omega)) (Nat.mod_lt _ (by omega))
    rw [Nat.div_div_eq_div_mul, Nat.div_div_eq_div_mul, Nat.mul_comm, ← Nat.pow_succ, Nat.mul_comm (rC R r), ← Nat.pow_succ]
    exact h
theorem to_gS_L1 {S : mj_S} {Q : Option Value → mj_H → Prop} {h : mj_H} (hs : HT h) {K : SK} (hK : KC K h) (hO : KO K) {R : SR} {Y : OW} (hRO : RO K.1 R) {r a b c d : Nat} (hr : r < R.1) (hx : RuC1 R Y h r a b c d) {P : SP} (hR : RwC P Y h) (hQ : PO K.1 P) {x y : Nat} {l : List Nat} (hB : Pob h x y l) (hl : okL (pMd P) l) {L : LV} (hS : Src P l L) {s : Nat} (hs5 : s ≤ 5) {i u : Nat} (hi : i < l.length * rR R r ^ s) (hu : i / rR R r ^ s = u) (hne : rR R r ≠ rC R r) (kz : ¬ stW K R r L s → Q (some (.int 0)) h)
    (kx : (∀ k', k' < gL L u * rC R r ^ s → ¬ lw K R r (gX L) s i k' = none) → Ex S to_growsStraight 114 [some (.ref 0), some (.ref (x)), some (.ref (a)), some (.int (nI (s))), some (.int (nI ((rR R r) ^ s))), some (.int (nI ((rC R r) ^ s))), some (.int (nI (i))), some (.int (J (gO L u * (((rC R r) ^ s : Nat) : Int)))), some (.int (J (gO L u * (((rC R r) ^ s : Nat) : Int) + ((gL L u * (rC R r) ^ s : Nat) : Int)))), some (.int (J (gO L u * (((rC R r) ^ s : Nat) : Int) + ((gL L u * rC R r ^ s : Nat) : Int))))] [] h Q) : ∀ e k : Nat, k + e = gL L u * rC R r ^ s → (∀ k', k' < k → ¬ lw K R r (gX L) s i k' = none) → Ex S to_growsStraight 83 [some (.ref 0), some (.ref (x)), some (.ref (a)), some (.int (nI (s))), some (.int (nI ((rR R r) ^ s))), some (.int (nI ((rC R r) ^ s))), some (.int (nI (i))), some (.int (J (gO L u * (((rC R r) ^ s : Nat) : Int)))), some (.int (J (gO L u * (((rC R r) ^ s : Nat) : Int) + ((gL L u * (rC R r) ^ s : Nat) : Int)))), some (.int (J (gO L u * (((rC R r) ^ s : Nat) : Int) + ((k : Nat) : Int))))] [] h Q := by
  obtain ⟨hz1, hz2⟩ := hRO.2 r hr
  have hl60 := hl.1
  have hsR := pw_b (a := rR R r) (by omega) hs5
  have hsC := pw_b (a := rC R r) (by omega) hs5
  have hLO := Src_LO hQ hl hS
  have hN := hS.1
  have hi60 : l.length * rR R r ^ s ≤ 60 * 1024 := mul_le hl60 hsR.2
  have hu0 : i / rR R r ^ s < l.length := by rw [Nat.div_lt_iff_lt_mul (by omega)]; exact hi
  rw [hu] at hu0
  have hLu := (hLO.2 u (by omega)).1
  have hk60 : gL L u * rC R r ^ s ≤ 60 * 1024 := mul_le (by omega) hsC.2
  have hob := ob (o := gO L u) (c := rC R r ^ s) (by omega) hsC.2
  intro e
  induction e with
  | zero =>
    intro k hke hev
    obtain rfl : gL L u * rC R r ^ s = k := by omega
    refine Ex_iload d_to_growsStraight_83 rfl ?_
    refine Ex_iload d_to_growsStraight_85 rfl ?_
    refine Ex_icmp_geZ (gO L u * (((rC R r) ^ s : Nat) : Int) + ((gL L u * rC R r ^ s : Nat) : Int)) (gO L u * (((rC R r) ^ s : Nat) : Int) + ((gL L u * (rC R r) ^ s : Nat) : Int)) 114 d_to_growsStraight_87 rfl rfl rfl (by omega) (by omega) (fun hc87 => ?_) (fun hc87 => ?_)
    · exact kx hev
    · exfalso; omega
  | succ e ih =>
    intro k hke hev
    have hkk : k < gL L (i / rR R r ^ s) * rC R r ^ s := by rw [hu]; omega
    have hokw : okW K.1 (lw K R r (gX L) s i k) := lw_ok hO hRO hr s (by rw [hu]; exact (hLO.2 u (by omega)).2 _ (by rw [Nat.div_lt_iff_lt_mul (by omega)]; omega))
    refine Ex_iload d_to_growsStraight_83 rfl ?_
    refine Ex_iload d_to_growsStraight_85 rfl ?_
    refine Ex_icmp_geZ (gO L u * (((rC R r) ^ s : Nat) : Int) + ((k : Nat) : Int)) (gO L u * (((rC R r) ^ s : Nat) : Int) + ((gL L u * (rC R r) ^ s : Nat) : Int)) 114 d_to_growsStraight_87 rfl rfl rfl (by omega) (by omega) (fun hc87 => ?_) (fun hc87 => ?_)
    · exfalso; omega
    · refine Ex_aload_n d_to_growsStraight_90 rfl ?_
      refine Ex_aload_n d_to_growsStraight_91 rfl ?_
      refine Ex_aload_n d_to_growsStraight_92 rfl ?_
      refine Ex_iload_n d_to_growsStraight_93 rfl ?_
      refine Ex_iload d_to_growsStraight_94 rfl ?_
      refine Ex_iload d_to_growsStraight_96 rfl ?_
      refine Ex_pV5 (v := .int (eW (lw K R r (gX L) s i k))) d_to_growsStraight_98 pk_to_growsStraight_300 (t_0 hs) (to_grownCell_s hs hK hO hRO hr hx hR hQ hB hl hS hs5 hi hkk (by rw [hu])) ?_
      refine Ex_bipush d_to_growsStraight_101 bp_m3 ?_
      refine Ex_icmp_ne 108 d_to_growsStraight_103 rfl (fun hc103 => ?_) (fun hc103 => ?_)
      · refine Ex_iincZ (gO L u * (((rC R r) ^ s : Nat) : Int) + ((k : Nat) : Int)) (1) [some (.ref 0), some (.ref (x)), some (.ref (a)), some (.int (nI (s))), some (.int (nI ((rR R r) ^ s))), some (.int (nI ((rC R r) ^ s))), some (.int (nI (i))), some (.int (J (gO L u * (((rC R r) ^ s : Nat) : Int)))), some (.int (J (gO L u * (((rC R r) ^ s : Nat) : Int) + ((gL L u * (rC R r) ^ s : Nat) : Int)))), some (.int (J ((gO L u * (((rC R r) ^ s : Nat) : Int) + ((k : Nat) : Int)) + (1))))] d_to_growsStraight_108 rfl rfl (by decide) rfl ?_
        refine Ex_goto 83 d_to_growsStraight_111 rfl ?_
        rw [show gO L u * (((rC R r) ^ s : Nat) : Int) + ((k : Nat) : Int) + (1) = gO L u * (((rC R r) ^ s : Nat) : Int) + ((k + 1 : Nat) : Int) by omega]
        refine ih (k + 1) (by omega) (fun k' hk' => ?_)
        by_cases hkk2 : k' = k
        · rw [hkk2]; exact fun z => hc103 ((eW_3 hokw hO.1).mpr z)
        · exact hev k' (by omega)
      · refine Ex_iconst d_to_growsStraight_106 ic_0 ?_
        refine Ex_zreturn d_to_growsStraight_107 rfl (by decide) ?_
        exact kz (fun z => by rcases z with z | z; exact hne z; exact z i (by rw [hN]; exact hi) k hkk ((eW_3 hokw hO.1).mp hc103))
theorem to_gS_L2 {S : mj_S} {h : mj_H} (hs : HT h) {K : SK} (hK : KC K h) (hO : KO K) {R : SR} {Y : OW} (hRO : RO K.1 R) {r a b c d : Nat} (hr : r < R.1) (hx : RuC1 R Y h r a b c d) {P : SP} (hR : RwC P Y h) (hQ : PO K.1 P) {x y : Nat} {l : List Nat} (hB : Pob h x y l) (hl : okL (pMd P) l) {L : LV} (hS : Src P l L) {s : Nat} (hs5 : s ≤ 5) (hne : rR R r ≠ rC R r) : ∀ e i : Nat, i + e = l.length * rR R r ^ s → (∀ i', i' < i → ∀ k, k < gL L (i' / rR R r ^ s) * rC R r ^ s → ¬ lw K R r (gX L) s i' k = none) → Ex S to_growsStraight 36 [some (.ref 0), some (.ref (x)), some (.ref (a)), some (.int (nI (s))), some (.int (nI ((rR R r) ^ s))), some (.int (nI ((rC R r) ^ s))), some (.int (nI (i))), none, none, none] [] h (PuB (stW K R r L s) h) := by
  obtain ⟨hz1, hz2⟩ := hRO.2 r hr
  have hl60 := hl.1
  have hsR := pw_b (a := rR R r) (by omega) hs5
  have hsC := pw_b (a := rC R r) (by omega) hs5
  have hLO := Src_LO hQ hl hS
  have hN := hS.1
  have hi60 : l.length * rR R r ^ s ≤ 60 * 1024 := mul_le hl60 hsR.2
  intro e
  induction e with
  | zero =>
    intro i hie hev
    obtain rfl : l.length * rR R r ^ s = i := by omega
    refine Ex_iload d_to_growsStraight_36 rfl ?_
    refine Ex_aload_n d_to_growsStraight_38 rfl ?_
    refine Ex_getIE (y := (nI (l.length))) d_to_growsStraight_39 pf_to_143 rfl hB.1.1 hB.2.1 ?_
    refine Ex_iload d_to_growsStraight_42 rfl ?_
    refine Ex_imulN (l.length) ((rR R r) ^ s) d_to_growsStraight_44 rfl rfl ?_
    refine Ex_icmp_geN (l.length * rR R r ^ s) (l.length * ((rR R r) ^ s)) 120 d_to_growsStraight_45 rfl rfl rfl (by omega) (by omega) (fun hc45 => ?_) (fun hc45 => ?_)
    · refine Ex_iconst d_to_growsStraight_120 ic_1 ?_
      refine Ex_zreturn d_to_growsStraight_121 rfl (by decide) ?_
      exact PuB_t (Or.inr (by rw [hN]; exact hev))
    · exfalso; omega
  | succ e ih =>
    intro i hie hev
    have hi : i < l.length * rR R r ^ s := by omega
    obtain ⟨u, hu⟩ : ∃ u, i / rR R r ^ s = u := ⟨_, rfl⟩
    have hu0 : i / rR R r ^ s < l.length := by rw [Nat.div_lt_iff_lt_mul (by omega)]; exact hi
    rw [hu] at hu0
    have hLu := (hLO.2 u (by omega)).1
    refine Ex_iload d_to_growsStraight_36 rfl ?_
    refine Ex_aload_n d_to_growsStraight_38 rfl ?_
    refine Ex_getIE (y := (nI (l.length))) d_to_growsStraight_39 pf_to_143 rfl hB.1.1 hB.2.1 ?_
    refine Ex_iload d_to_growsStraight_42 rfl ?_
    refine Ex_imulN (l.length) ((rR R r) ^ s) d_to_growsStraight_44 rfl rfl ?_
    refine Ex_icmp_geN (i) (l.length * ((rR R r) ^ s)) 120 d_to_growsStraight_45 rfl rfl rfl (by omega) (by omega) (fun hc45 => ?_) (fun hc45 => ?_)
    · exfalso; omega
    · refine Ex_aload_n d_to_growsStraight_48 rfl ?_
      refine Ex_iload d_to_growsStraight_49 rfl ?_
      refine Ex_iload d_to_growsStraight_51 rfl ?_
      refine Ex_idivN (i) ((rR R r) ^ s) d_to_growsStraight_53 rfl rfl (by omega) (by omega) ?_
      rw [show ((nI (i / ((rR R r) ^ s))) : Int32) = (nI (u)) from (by rw [hu])]
      refine Ex_pV1 (v := .int (J (gO L u))) d_to_growsStraight_54 pk_to_growsStraight_215 hB.1.1 (pa_off_u hs hR hQ hB hl hS hu0) ?_
      refine Ex_iload d_to_growsStraight_57 rfl ?_
      refine Ex_imulZ (gO L u) ((((rC R r) ^ s : Nat) : Int)) d_to_growsStraight_59 rfl (nIJ _) ?_
      refine Ex_istore [some (.ref 0), some (.ref (x)), some (.ref (a)), some (.int (nI (s))), some (.int (nI ((rR R r) ^ s))), some (.int (nI ((rC R r) ^ s))), some (.int (nI (i))), some (.int (J ((gO L u) * ((((rC R r) ^ s : Nat) : Int))))), none, none] d_to_growsStraight_60 (Nat.le_of_ble_eq_true rfl) rfl ?_
      refine Ex_iload d_to_growsStraight_62 rfl ?_
      refine Ex_aload_n d_to_growsStraight_64 rfl ?_
      refine Ex_iload d_to_growsStraight_65 rfl ?_
      refine Ex_iload d_to_growsStraight_67 rfl ?_
      refine Ex_idivN (i) ((rR R r) ^ s) d_to_growsStraight_69 rfl rfl (by omega) (by omega) ?_
      rw [show ((nI (i / ((rR R r) ^ s))) : Int32) = (nI (u)) from (by rw [hu])]
      refine Ex_pV1 (v := .int (nI (gL L u))) d_to_growsStraight_70 pk_to_growsStraight_212 hB.1.1 (pa_len_u hs hR hQ hB hl hS hu0) ?_
      refine Ex_iload d_to_growsStraight_73 rfl ?_
      refine Ex_imulN (gL L u) ((rC R r) ^ s) d_to_growsStraight_75 rfl rfl ?_
      refine Ex_iaddZ ((gO L u) * ((((rC R r) ^ s : Nat) : Int))) ((((gL L u) * ((rC R r) ^ s) : Nat) : Int)) d_to_growsStraight_76 rfl (nIJ _) ?_
      refine Ex_istore [some (.ref 0), some (.ref (x)), some (.ref (a)), some (.int (nI (s))), some (.int (nI ((rR R r) ^ s))), some (.int (nI ((rC R r) ^ s))), some (.int (nI (i))), some (.int (J ((gO L u) * ((((rC R r) ^ s : Nat) : Int))))), some (.int (J (((gO L u) * ((((rC R r) ^ s : Nat) : Int))) + ((((gL L u) * ((rC R r) ^ s) : Nat) : Int))))), none] d_to_growsStraight_77 (Nat.le_of_ble_eq_true rfl) rfl ?_
      refine Ex_iload d_to_growsStraight_79 rfl ?_
      refine Ex_istore [some (.ref 0), some (.ref (x)), some (.ref (a)), some (.int (nI (s))), some (.int (nI ((rR R r) ^ s))), some (.int (nI ((rC R r) ^ s))), some (.int (nI (i))), some (.int (J ((gO L u) * ((((rC R r) ^ s : Nat) : Int))))), some (.int (J (((gO L u) * ((((rC R r) ^ s : Nat) : Int))) + ((((gL L u) * ((rC R r) ^ s) : Nat) : Int))))), some (.int (J ((gO L u) * ((((rC R r) ^ s : Nat) : Int)))))] d_to_growsStraight_81 (Nat.le_of_ble_eq_true rfl) rfl ?_
      refine (fun q => by rw [show (gO L u * (((rC R r) ^ s : Nat) : Int) : Int) + ((0 : Nat) : Int) = gO L u * (((rC R r) ^ s : Nat) : Int) from Int.add_zero _] at q; exact q) (to_gS_L1 (S := S) (Q := PuB (stW K R r L s) h) hs hK hO hRO hr hx hR hQ hB hl hS hs5 hi hu hne (fun z => PuB_f z) (fun hod => ?_) (gL L u * rC R r ^ s) 0 (by omega) (fun k hk => absurd hk (by omega)))
      refine Ex_iincN (i) 1 [some (.ref 0), some (.ref (x)), some (.ref (a)), some (.int (nI (s))), some (.int (nI ((rR R r) ^ s))), some (.int (nI ((rC R r) ^ s))), some (.int (nI (i + 1))), some (.int (J (gO L u * (((rC R r) ^ s : Nat) : Int)))), some (.int (J (gO L u * (((rC R r) ^ s : Nat) : Int) + ((gL L u * (rC R r) ^ s : Nat) : Int)))), some (.int (J (gO L u * (((rC R r) ^ s : Nat) : Int) + ((gL L u * rC R r ^ s : Nat) : Int))))] d_to_growsStraight_114 rfl rfl rfl rfl ?_
      refine Ex_goto 36 d_to_growsStraight_117 rfl ?_
      refine Ex_forget (ls' := [some (.ref 0), some (.ref (x)), some (.ref (a)), some (.int (nI (s))), some (.int (nI ((rR R r) ^ s))), some (.int (nI ((rC R r) ^ s))), some (.int (nI (i + 1))), none, none, none]) (sub_s (sub_s (sub_s (sub_s (sub_s (sub_s (sub_s (sub_n (sub_n (sub_n sub_0)))))))))) ?_
      refine ih (i + 1) (by omega) (fun i' hi' k hk => ?_)
      by_cases hii : i' = i
      · rw [hii] at hk ⊢
        rw [hu] at hk
        exact hod k hk
      · exact hev i' (by omega) k hk
theorem to_growsStraight_s {S : mj_S} {h : mj_H} (hs : HT h) {K : SK} (hK : KC K h) (hO : KO K) {R : SR} {Y : OW} (hRO : RO K.1 R) {r a b c d : Nat} (hr : r < R.1) (hx : RuC1 R Y h r a b c d) {P : SP} (hR : RwC P Y h) (hQ : PO K.1 P) {x y : Nat} {l : List Nat} (hB : Pob h x y l) (hl : okL (pMd P) l) {L : LV} (hS : Src P l L) {s : Nat} (hs5 : s ≤ 5) : Cl S to_growsStraight [.ref 0, .ref (x), .ref (a), .int (nI (s))] h (PuB (stW K R r L s) h) := by
  show Ex S to_growsStraight 0 [some (.ref 0), some (.ref (x)), some (.ref (a)), some (.int (nI (s))), none, none, none, none, none, none] [] h _
  obtain ⟨hz1, hz2⟩ := hRO.2 r hr
  have hl60 := hl.1
  have hsR := pw_b (a := rR R r) (by omega) hs5
  have hsC := pw_b (a := rC R r) (by omega) hs5
  have hLO := Src_LO hQ hl hS
  have hN := hS.1
  refine Ex_aload_n d_to_growsStraight_0 rfl ?_
  refine Ex_getIE (y := (nI (rR R r))) d_to_growsStraight_1 pf_to_279 rfl hx.2.1.2.1 hx.2.2.1 ?_
  refine Ex_aload_n d_to_growsStraight_4 rfl ?_
  refine Ex_getIE (y := (nI (rC R r))) d_to_growsStraight_5 pf_to_283 rfl hx.2.1.2.1 hx.2.2.2.1 ?_
  refine Ex_icmp_neN (rR R r) (rC R r) 13 d_to_growsStraight_8 rfl rfl rfl (by omega) (by omega) (fun hc8 => ?_) (fun hc8 => ?_)
  · refine Ex_aload_n d_to_growsStraight_13 rfl ?_
    refine Ex_getIE (y := (nI (rR R r))) d_to_growsStraight_14 pf_to_279 rfl hx.2.1.2.1 hx.2.2.1 ?_
    refine Ex_iload_n d_to_growsStraight_17 rfl ?_
    refine Ex_pS2 (v := .int (nI ((rR R r) ^ s))) d_to_growsStraight_18 pk_to_growsStraight_280 (to_power_s (by omega) (by omega)) ?_
    refine Ex_istore [some (.ref 0), some (.ref (x)), some (.ref (a)), some (.int (nI (s))), some (.int (nI ((rR R r) ^ s))), none, none, none, none, none] d_to_growsStraight_21 (Nat.le_of_ble_eq_true rfl) rfl ?_
    refine Ex_aload_n d_to_growsStraight_23 rfl ?_
    refine Ex_getIE (y := (nI (rC R r))) d_to_growsStraight_24 pf_to_283 rfl hx.2.1.2.1 hx.2.2.2.1 ?_
    refine Ex_iload_n d_to_growsStraight_27 rfl ?_
    refine Ex_pS2 (v := .int (nI ((rC R r) ^ s))) d_to_growsStraight_28 pk_to_growsStraight_280 (to_power_s (by omega) (by omega)) ?_
    refine Ex_istore [some (.ref 0), some (.ref (x)), some (.ref (a)), some (.int (nI (s))), some (.int (nI ((rR R r) ^ s))), some (.int (nI ((rC R r) ^ s))), none, none, none, none] d_to_growsStraight_31 (Nat.le_of_ble_eq_true rfl) rfl ?_
    refine Ex_iconst d_to_growsStraight_33 ic_0 ?_
    refine Ex_istore [some (.ref 0), some (.ref (x)), some (.ref (a)), some (.int (nI (s))), some (.int (nI ((rR R r) ^ s))), some (.int (nI ((rC R r) ^ s))), some (.int (0)), none, none, none] d_to_growsStraight_34 (Nat.le_of_ble_eq_true rfl) rfl ?_
    exact to_gS_L2 hs hK hO hRO hr hx hR hQ hB hl hS hs5 hc8 (l.length * rR R r ^ s) 0 (by omega) (fun i hi => absurd hi (by omega))
  · refine Ex_iconst d_to_growsStraight_11 ic_1 ?_
    refine Ex_zreturn d_to_growsStraight_12 rfl (by decide) ?_
    exact PuB_t (Or.inl (by omega))
