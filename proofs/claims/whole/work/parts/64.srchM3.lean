/-! The reference: search as a whole; fill, fills, cheapest. -/
def Zi (F : SF) (f b : Nat) : ZS := (fun _ => none, fS F f, 0, fun _ => b, fun _ => 0, 0, fE F, 0, 0, 0, fun _ => none)
def lcA (K : SK) (F : SF) (f : Nat) (y : Bool) : Nat := if y = true then (lcS K (fS F f) K.1).getD 0 else 0
def srS (K : SK) (F : SF) (f w : Nat) (y : Bool) : ZS × Bool := match npS K F f (fun _ => none) (fS F f) with
  | none => (fiZ F f (Zi F f 0), false)
  | some b => rnS K F f (nOp F f) w y (lcA K F f y) 60002 (Zi F f b)
def ocS (K : SK) (F : SF) (f w : Nat) (y : Bool) : ZS × Bool := if gdS K F f 64 = true then srS K F f w y else (Zi F f 0, false)
theorem LyI_0 {K : SK} {F : SF} {f n : Nat} {p t : Nat → Nat} : LyI K F f n 0 (fun _ => none) (fS F f) p t 0 := ⟨Nat.zero_le _, fun i hi => absurd hi (Nat.not_lt_zero _), fun i j _ hj => absurd hj (Nat.not_lt_zero _), fun _ _ => rfl, fun _ => rfl, rfl⟩
theorem zI_0 {K : SK} {F : SF} (hFO : FO K.1 F) {f n b : Nat} : zI K F f n 0 (Zi F f b) := ⟨LyI_0, ⟨Nat.zero_le _, hFO.2.1, Nat.le_refl _, Nat.zero_le _⟩, fun _ => trivial⟩
theorem zO_0 {K : SK} {F : SF} (hFO : FO K.1 F) {f n b : Nat} (hn : 0 < n) (hb : b < 64 ∧ opF F f b) : zO K F f n (Zi F f b) := ⟨zI_0 hFO, hn, hb, rfl, Nat.zero_le _⟩
def zR (K : SK) (F : SF) (f : Nat) (Z : ZS) : Prop := zf Z ≤ 30001 ∧ ze Z ≤ 600000 ∧ zb Z ≤ 64000 ∧ okLy K.1 (zG Z) ∧ ∀ k, ¬ opF F f k → zG Z k = none
theorem zI_R {K : SK} {F : SF} {f n m : Nat} {Z : ZS} (h : zI K F f n m Z) (hG : ∀ k, ¬ opF F f k → zG Z k = none) : zR K F f Z := ⟨by have := h.2.1; omega, h.2.1.2.1, h.2.1.2.2.2, h.2.2, hG⟩
theorem rn_ok {K : SK} (hO : KO K) {F : SF} {f n : Nat} {o : Nat → Nat} (hE : EnO (opF F f) 64 n o) {w : Nat} {y : Bool} {a : Nat} : ∀ (N : Nat) (Z : ZS), zO K F f n Z → (∀ k, ¬ opF F f k → zG Z k = none) → zR K F f (rnS K F f n w y a N Z).1
  | 0, Z, h, hG => zI_R h.1 hG
  | N + 1, Z, h, hG => by
    have hn64 := EnO_le hE
    generalize hx : nxS K F f n y a Z = r
    rcases r with _ | x
    · by_cases hz : zd Z = 0
      · rw [rn_s (tn_0 hx hz)]; exact zI_R h.1 hG
      · rw [rn_n (tn_b hx hz)]
        obtain ⟨e, hze⟩ : ∃ e, zd Z = e + 1 := ⟨zd Z - 1, by omega⟩
        have hI2 : zI K F f n (e + 1) Z := hze ▸ h.1
        rw [show zd Z - 1 = e by omega]
        exact rn_ok hO hE N _ (zO_li hI2).1 hG
    · by_cases hs : zs Z = 30000 ∨ ze Z = 600000
      · rw [rn_s (tn_o hx hs)]; exact zI_R h.1 hG
      · obtain ⟨h1, h2⟩ := nx_b hx h.2.2.2.2
        have hI2 := zI_la h h1 h2 hs
        have hff := h.1.2.1
        have hff2 := hI2.2.1
        have hzf2 : zf (laZ K Z x) = zf Z := rfl
        have hzs2 : zs (laZ K Z x) = zs Z + 1 := rfl
        rcases np_or hI2 hE with ⟨hm, b, hb1, hb2, hb3⟩ | ⟨hm, hb1⟩
        · rw [rn_n (tn_p hx hs hb1)]
          exact rn_ok hO hE N _ (zO_pu (Z := laZ K Z x) hI2 hm hb2 hb3) hG
        · have hI8 : zI K F f n (zd Z + 1) (fiZ F f (laZ K Z x)) := zI_fi hO hI2 hn64 (by omega)
          by_cases hw : w ≤ zf Z + 1
          · rw [rn_s (tn_f hx hs hb1 hw)]; exact zI_R hI8 (fun k hk => if_neg hk)
          · rw [rn_n (tn_g hx hs hb1 hw)]
            exact rn_ok hO hE N _ (zO_li hI8).1 (fun k hk => if_neg hk)
theorem fi0_R {K : SK} {F : SF} (hFO : FO K.1 F) {f : Nat} : zR K F f (fiZ F f (Zi F f 0)) := by
  refine ⟨by show 0 + 1 ≤ 30001; decide, hFO.2.1, Nat.zero_le _, fun k => ?_, fun k hk => if_neg hk⟩
  show okP K.1 (if opF F f k then none else none)
  split <;> exact trivial
theorem enx (p : Nat → Prop) : ∀ N, ∃ n o, EnO p N n o
  | 0 => ⟨0, fun _ => 0, EnO_z _ _⟩
  | N + 1 => by
    obtain ⟨n, o, h⟩ := enx p N
    by_cases hp : p N
    · exact ⟨_, _, EnO_s h hp⟩
    · exact ⟨_, _, EnO_n h hp⟩
theorem sr_R {K : SK} (hO : KO K) {F : SF} (hFO : FO K.1 F) {f w : Nat} {y : Bool} : zR K F f (srS K F f w y).1 := by
  obtain ⟨n, o, hE⟩ := enx (opF F f) 64
  have hnp := EnO_nOp hE
  unfold srS
  rcases np_or (zI_0 (f := f) (n := n) (b := 0) hFO) hE with ⟨hm, b, hb1, hb2, hb3⟩ | ⟨hm, hb1⟩
  · have hb1 : npS K F f (fun _ => none) (fS F f) = some b := hb1
    rw [hb1, hnp]
    exact rn_ok hO hE _ _ (zO_0 hFO hm hb2) (fun _ _ => rfl)
  · have hb1 : npS K F f (fun _ => none) (fS F f) = none := hb1
    rw [hb1]
    exact fi0_R hFO
theorem oc_R {K : SK} (hO : KO K) {F : SF} (hFO : FO K.1 F) {f w : Nat} {y : Bool} : zR K F f (ocS K F f w y).1 := by
  unfold ocS
  split
  · exact sr_R hO hFO
  · exact ⟨Nat.zero_le _, hFO.2.1, Nat.zero_le _, fun _ => trivial, fun _ _ => rfl⟩
def setF (F : SF) (f : Nat) (G : Nat → Pl) (e : Nat) : SF := (F.1, F.2.1, F.2.2.1, F.2.2.2.1, va_up (fL F) f G, F.2.2.2.2.2.1, e)
theorem setF_ok {n : Nat} {F : SF} (hFO : FO n F) {f : Nat} {G : Nat → Pl} (hG : okLy n G) {e : Nat} (he : e ≤ 600000) : FO n (setF F f G e) := by
  refine ⟨hFO.1, he, fun q hq => ?_⟩
  obtain ⟨a1, a2, a3⟩ := hFO.2.2 q hq
  refine ⟨a1, fun k hk => ⟨(a2 k hk).1, ?_⟩, a3⟩
  show okP n (va_up (fL F) f G q k)
  unfold va_up
  split
  · exact hG k
  · exact (a2 k hk).2
theorem setF_Z {F : SF} (hZ : FZ F) {f : Nat} {G : Nat → Pl} (hG : ∀ k, ¬ opF F f k → G k = none) {e : Nat} : FZ (setF F f G e) := by
  intro q k hq hi
  obtain ⟨a1, a2⟩ := hZ q k hq hi
  refine ⟨a1, ?_⟩
  show va_up (fL F) f G q k = none
  unfold va_up
  split
  · rename_i hc
    subst hc
    exact hG k (fun z => hi z.1)
  · exact a2
def WSA (a k : Nat) : Prop := a = 67 ∨ (69 ≤ a ∧ a ≤ 73) ∨ (a = 38 ∧ (k = 41 ∨ k = 42 ∨ k = 43 ∨ (49 ≤ k ∧ k ≤ 54)))
theorem WSM_A {f : Nat} : ∀ a k, WSM f a k → WSA a k := by intro a k h; unfold WSM at h; unfold WSA; omega
theorem FM_setF {F : SF} {f : Nat} {h h1 : mj_H} (hs : HT h) (hF : FM F h) (fr : Fr (WSM f) h h1) {G : Nat → Pl} {e : Nat} (he : mI h1 38 41 = nI e) (hG : ∀ k, k < 64 → mI h1 67 (64 * f + k) = eP (G k)) : FM (setF F f G e) h1 := by
  have hn := HT_n hs
  refine ⟨?_, he, fun q hq => ?_⟩
  · rw [fr.I (by omega) (by unfold WSM; omega)]; exact hF.1
  · obtain ⟨⟨a1, a2⟩, a3, a4⟩ := hF.2.2 q hq
    refine ⟨⟨?_, ?_⟩, fun k hk => ⟨?_, ?_⟩, fun k hk => ?_⟩
    · rw [fr.I (by omega) (by unfold WSM; omega)]; exact a1
    · rw [fr.I (by omega) (by unfold WSM; omega)]; exact a2
    · rw [fr.I (by omega) (by unfold WSM; omega)]; exact (a3 k hk).1
    · show _ = eP (va_up (fL F) f G q k)
      unfold va_up
      by_cases z : q = f
      · subst z; rw [if_pos rfl]; exact hG k hk
      · rw [if_neg z, fr.I (by omega) (by unfold WSM; omega)]; exact (a3 k hk).2
    · rw [fr.I (by omega) (by unfold WSM; omega)]; exact a4 k hk
theorem ZM_Zi {K : SK} {F : SF} {f n b : Nat} {o : Nat → Nat} {h : mj_H} (a1 : SM K.1 F f (fun _ => none) (fS F f) h) (a2 : OM F f n o h) (a3 : mI h 72 0 = nI b) (a4 : mI h 73 0 = -1) (b1 : mI h 38 50 = 0) (b2 : mI h 38 51 = 0) (b3 : mI h 38 52 = 0) (b4 : mI h 38 53 = -1) (b5 : mI h 38 41 = nI (fE F)) (b6 : mI h 38 54 = 0) (a5 : ∀ k, k < 64 → mI h 67 (64 * f + k) = 0) : ZM K F f n o (Zi F f b) h :=
  ⟨⟨a1, a2⟩, fun i hi => by
    obtain rfl : i = 0 := Nat.le_zero.mp hi
    exact ⟨a3, a4⟩, ⟨⟨b1, b2⟩, ⟨b3, b4⟩, b5, b6⟩, a5, fun _ _ => rfl⟩
theorem rm_search_E {S : mj_S} {h : mj_H} (hs : HT h) {K : SK} (hK : KM K h) (hO : KO K) {F : SF} (hFO : FO K.1 F) {f : Nat} (hf : f < F.1) (hF : FT1 F f h) (hM : SM K.1 F f (fun _ => none) (fS F f) h) {n : Nat} {o : Nat → Nat} (hQ : OM F f n o h) (he : mI h 38 41 = nI (fE F)) (hG : ∀ k, k < 64 → mI h 67 (64 * f + k) = 0) {w : Nat} (hw : 1 ≤ w ∧ w < 2147483648) {y : Bool} {a : Nat} (ha : a = lcA K F f y) (ha2 : a ≤ 1000) : Ex S rm_search 46 [some (.ref 38), some (.int (nI (w))), some (.int (bI (y))), some (.int (nI (a))), some (.int (1)), none, none] [] (wI (wI (wI (wI (wI (wI h 38 50 0) 38 51 0) 38 52 0) 38 53 (-1)) 38 54 0) 38 49 0) (fun r h' => r = none ∧ sE f (srS K F f w y) h h') := by
  have hn := HT_n hs
  have hk40 := hO.1
  have hf6 := hFO.1
  have f06 : Fr (fun a k => a = 38 ∧ 49 ≤ k ∧ k ≤ 54) h (wI (wI (wI (wI (wI (wI h 38 50 0) 38 51 0) 38 52 0) 38 53 (-1)) 38 54 0) 38 49 0) := (((((Fr.rf.sI (by omega)).sI (by omega)).sI (by omega)).sI (by omega)).sI (by omega)).sI (by omega)
  have fr6 : Fr (WSM f) h (wI (wI (wI (wI (wI (wI h 38 50 0) 38 51 0) 38 52 0) 38 53 (-1)) 38 54 0) 38 49 0) := f06.mono (fun a k z => by unfold WSM; omega)
  have hs6 : HT (wI (wI (wI (wI (wI (wI h 38 50 0) 38 51 0) 38 52 0) 38 53 (-1)) 38 54 0) 38 49 0) := hs
  have hK6 := KM_sr hs fr6 hK
  have hF6 := FT1_sr hs fr6 hF
  have hM6 : SM K.1 F f (fun _ => none) (fS F f) (wI (wI (wI (wI (wI (wI h 38 50 0) 38 51 0) 38 52 0) 38 53 (-1)) 38 54 0) 38 49 0) := SM_fr hs f06 (by omega) (by omega) (by omega) hM
  have hQ6 : OM F f n o (wI (wI (wI (wI (wI (wI h 38 50 0) 38 51 0) 38 52 0) 38 53 (-1)) 38 54 0) 38 49 0) := OM_fr hs f06 (by omega) (by omega) hQ
  have hn64 := EnO_le hQ.1
  have hnp := EnO_nOp hQ.1
  have g50 : mI (wI (wI (wI (wI (wI (wI h 38 50 0) 38 51 0) 38 52 0) 38 53 (-1)) 38 54 0) 38 49 0) 38 50 = 0 := (by rw [mI_oth (Or.inr (by decide)), mI_oth (Or.inr (by decide)), mI_oth (Or.inr (by decide)), mI_oth (Or.inr (by decide)), mI_oth (Or.inr (by decide)), mI_self])
  have g51 : mI (wI (wI (wI (wI (wI (wI h 38 50 0) 38 51 0) 38 52 0) 38 53 (-1)) 38 54 0) 38 49 0) 38 51 = 0 := (by rw [mI_oth (Or.inr (by decide)), mI_oth (Or.inr (by decide)), mI_oth (Or.inr (by decide)), mI_oth (Or.inr (by decide)), mI_self])
  have g52 : mI (wI (wI (wI (wI (wI (wI h 38 50 0) 38 51 0) 38 52 0) 38 53 (-1)) 38 54 0) 38 49 0) 38 52 = 0 := (by rw [mI_oth (Or.inr (by decide)), mI_oth (Or.inr (by decide)), mI_oth (Or.inr (by decide)), mI_self])
  have g53 : mI (wI (wI (wI (wI (wI (wI h 38 50 0) 38 51 0) 38 52 0) 38 53 (-1)) 38 54 0) 38 49 0) 38 53 = -1 := (by rw [mI_oth (Or.inr (by decide)), mI_oth (Or.inr (by decide)), mI_self])
  have g54 : mI (wI (wI (wI (wI (wI (wI h 38 50 0) 38 51 0) 38 52 0) 38 53 (-1)) 38 54 0) 38 49 0) 38 54 = 0 := (by rw [mI_oth (Or.inr (by decide)), mI_self])
  have g49 : mI (wI (wI (wI (wI (wI (wI h 38 50 0) 38 51 0) 38 52 0) 38 53 (-1)) 38 54 0) 38 49 0) 38 49 = 0 := (by rw [mI_self])
  have g41 : mI (wI (wI (wI (wI (wI (wI h 38 50 0) 38 51 0) 38 52 0) 38 53 (-1)) 38 54 0) 38 49 0) 38 41 = nI (fE F) := by rw [f06.I (by omega) (by omega)]; exact he
  have g67 : ∀ k, k < 64 → mI (wI (wI (wI (wI (wI (wI h 38 50 0) 38 51 0) 38 52 0) 38 53 (-1)) 38 54 0) 38 49 0) 67 (64 * f + k) = 0 := fun k hk => by rw [f06.I (by omega) (by omega)]; exact hG k hk
  have hm6 : 74 ≤ mN (wI (wI (wI (wI (wI (wI h 38 50 0) 38 51 0) 38 52 0) 38 53 (-1)) 38 54 0) 38 49 0) := hn
  have hl6 : ∀ k, k < 40 → fS F f k < 2147483648 := fun k hk => by have := ((hFO.2.2 f hf).2.2 k hk).1; omega
  generalize (wI (wI (wI (wI (wI (wI h 38 50 0) 38 51 0) 38 52 0) 38 53 (-1)) 38 54 0) 38 49 0) = h6 at *
  refine Ex_aload_n d_rm_search_46 rfl ?_
  refine Ex_getIE (y := (nI (0))) d_rm_search_47 pf_rm_319 rfl (t_38 hs6) g51 ?_
  refine Ex_iload_n d_rm_search_50 rfl ?_
  refine Ex_icmp_geN (0) (w) 377 d_rm_search_51 rfl rfl rfl (by omega) (by omega) (fun hc51 => ?_) (fun hc51 => ?_)
  · exfalso; omega
  · refine Ex_aload_n d_rm_search_54 rfl ?_
    refine Ex_getIE (y := (0 : Int32)) d_rm_search_55 pf_rm_325 rfl (t_38 hs6) g54 ?_
    refine Ex_if_neN (0) 377 d_rm_search_58 rfl rfl (by omega) (fun hc58 => ?_) (fun hc58 => ?_)
    · exact absurd hc58 (by decide)
    · refine Ex_iload d_rm_search_61 rfl ?_
      refine Ex_if_neN (1) 73 d_rm_search_63 rfl rfl (by omega) (fun hc63 => ?_) (fun hc63 => ?_)
      · refine Ex_iload d_rm_search_73 rfl ?_
        refine Ex_if_eqN (1) 148 d_rm_search_75 rfl rfl (by omega) (fun hc75 => ?_) (fun hc75 => ?_)
        · exact absurd hc75 (by decide)
        · refine Ex_aload_n d_rm_search_78 rfl ?_
          refine Ex_pV0 (v := .int (J (vN (npS K F f (fun _ => none) (fS F f))))) d_rm_search_79 pk_rm_search_335 (t_38 hs6) (rm_nextPlace_s hs6 hK6 hO hFO hf hF6 (L := fun _ => none) (fun _ => trivial) (l := fS F f) hM6 hl6 hQ6) ?_
          refine Ex_istore [some (.ref 38), some (.int (nI (w))), some (.int (bI (y))), some (.int (nI (a))), some (.int (1)), some (.int (J (vN (npS K F f (fun _ => none) (fS F f))))), none] d_rm_search_82 (Nat.le_of_ble_eq_true rfl) rfl ?_
          rcases np_or (zI_0 (f := f) (n := n) (b := 0) hFO) hQ.1 with ⟨hm, b, hb1, hb2, hb3⟩ | ⟨hm, hb1⟩
          · rw [show npS K F f (fun _ => none) (fS F f) = some b from hb1, show vN (some b) = (b : Int) from rfl, ← nIJ]
            refine Ex_iload d_rm_search_84 rfl ?_
            refine Ex_if_geN (b) 117 d_rm_search_86 rfl rfl (by omega) (fun hc86 => ?_) (fun hc86 => ?_)
            · refine Ex_aload_n d_rm_search_117 rfl ?_
              refine Ex_getR (v := .ref 72) d_rm_search_118 pf_rm_112 rfl (t_38 hs6) (r_38_47 hs6) ?_
              refine Ex_aload_n d_rm_search_121 rfl ?_
              refine Ex_getIE (y := (nI (0))) d_rm_search_122 pf_rm_329 rfl (t_38 hs6) (by first | exact g49 | (rw [mI_oth (Or.inl (by decide))]; exact g49) | (rw [mI_oth (Or.inl (by decide)), mI_oth (Or.inl (by decide))]; exact g49)) ?_
              refine Ex_iload d_rm_search_125 rfl ?_
              refine Ex_iastoreN (a := 0) d_rm_search_127 (t_72 hs6) rfl (by omega) (by decide) ?_
              refine Ex_aload_n d_rm_search_128 rfl ?_
              refine Ex_getR (v := .ref 73) d_rm_search_129 pf_rm_115 rfl (t_38 hs6) (r_38_48 hs6) ?_
              refine Ex_aload_n d_rm_search_132 rfl ?_
              refine Ex_getIE (y := (nI (0))) d_rm_search_133 pf_rm_329 rfl (t_38 hs6) (by first | exact g49 | (rw [mI_oth (Or.inl (by decide))]; exact g49) | (rw [mI_oth (Or.inl (by decide)), mI_oth (Or.inl (by decide))]; exact g49)) ?_
              refine Ex_iconst d_rm_search_136 ic_m1 ?_
              refine Ex_iastoreN (a := 0) d_rm_search_137 (t_73 hs6) rfl (by omega) (by decide) ?_
              refine Ex_aload_n d_rm_search_138 rfl ?_
              refine Ex_dup rfl d_rm_search_139 ?_
              refine Ex_getIE (y := (nI (0))) d_rm_search_140 pf_rm_329 rfl (t_38 hs6) (by first | exact g49 | (rw [mI_oth (Or.inl (by decide))]; exact g49) | (rw [mI_oth (Or.inl (by decide)), mI_oth (Or.inl (by decide))]; exact g49)) ?_
              refine Ex_iconst d_rm_search_143 ic_1 ?_
              refine Ex_iaddN (0) (1) d_rm_search_144 rfl rfl ?_
              refine Ex_putI d_rm_search_145 pf_rm_329 (Or.inl rfl) (t_38 hs6) (Or.inl rfl) ?_
              have f9 : Fr (fun a k => a = 72 ∨ a = 73 ∨ (a = 38 ∧ k = 49)) h6 (wI (wI (wI h6 72 0 (nI b)) 73 0 (-1)) 38 49 (nI (0 + 1))) := ((Fr.rf.sI (Or.inl rfl)).sI (Or.inr (Or.inl rfl))).sI (Or.inr (Or.inr ⟨rfl, rfl⟩))
              have fr9 : Fr (WSM f) h (wI (wI (wI h6 72 0 (nI b)) 73 0 (-1)) 38 49 (nI (0 + 1))) := fr6.tr (f9.mono (fun a k z => by unfold WSM; omega))
              have hZ9 : ZM K F f n o (Zi F f b) (wI (wI (wI h6 72 0 (nI b)) 73 0 (-1)) 38 49 (nI (0 + 1))) := ZM_Zi (SM_fr hs6 f9 (by omega) (by omega) (by omega) hM6) (OM_fr hs6 f9 (by omega) (by omega) hQ6) (by rw [mI_oth (Or.inl (by decide)), mI_oth (Or.inl (by decide)), mI_self]) (by rw [mI_oth (Or.inl (by decide)), mI_self]) (by rw [f9.I (by omega) (by omega)]; exact g50) (by rw [f9.I (by omega) (by omega)]; exact g51) (by rw [f9.I (by omega) (by omega)]; exact g52) (by rw [f9.I (by omega) (by omega)]; exact g53) (by rw [f9.I (by omega) (by omega)]; exact g41) (by rw [f9.I (by omega) (by omega)]; exact g54) (fun k hk => (by rw [f9.I (by omega) (by omega)]; exact g67 k hk))
              refine Ex_aload_n d_rm_search_148 rfl ?_
              refine Ex_getIE (y := (nI (0 + 1))) d_rm_search_149 pf_rm_329 rfl (t_38 hs6) (mI_self _ _ _ _) ?_
              refine Ex_iconst d_rm_search_152 ic_1 ?_
              refine Ex_isubN (0 + 1) (1) d_rm_search_153 rfl rfl (by omega) ?_
              rw [show ((nI ((0 + 1) - 1)) : Int32) = (nI (0)) from rfl]
              refine Ex_istore [some (.ref 38), some (.int (nI (w))), some (.int (bI (y))), some (.int (nI (a))), some (.int (1)), some (.int (nI (0))), none] d_rm_search_154 (Nat.le_of_ble_eq_true rfl) rfl ?_
              refine Ex_aload_n d_rm_search_156 rfl ?_
              refine Ex_getR (v := .ref 69) d_rm_search_157 pf_rm_103 rfl (t_38 hs6) (r_38_44 hs6) ?_
              refine Ex_aload_n d_rm_search_160 rfl ?_
              refine Ex_getR (v := .ref 72) d_rm_search_161 pf_rm_112 rfl (t_38 hs6) (r_38_47 hs6) ?_
              refine Ex_iload d_rm_search_164 rfl ?_
              refine Ex_ialoadN (a := 0) (y := (nI (b))) d_rm_search_166 (t_72 hs6) rfl (by omega) (by decide) (by rw [mI_oth (Or.inl (by decide)), mI_oth (Or.inl (by decide)), mI_self]) ?_
              refine Ex_ialoadN (a := b) (y := (eP none)) d_rm_search_167 (t_69 hs6) rfl (by omega) (by decide) (by rw [mI_oth (Or.inl (by decide)), mI_oth (Or.inl (by decide)), mI_oth (Or.inl (by decide))]; exact hM6.2.1 _ hb2.1 hb2.2.1) ?_
              refine Ex_if_eq 182 d_rm_search_168 rfl (fun hc168 => ?_) (fun hc168 => ?_)
              · have hsr : srS K F f w y = rnS K F f n w y a 60002 (Zi F f b) := by
                  unfold srS
                  rw [show npS K F f (fun _ => none) (fS F f) = some b from hb1, hnp, ha]
                rw [hsr]
                exact rm_search_T hs hK hO hFO hf hF hw.2 ha2 60002 (Zi F f b) _ 1 (zO_0 hFO hm hb2) (show 2 * (30000 - 0) + 0 < 60002 by decide) hw.1 hZ9 (mI_self _ _ _ _) fr9
              · exact absurd rfl hc168
            · exfalso; omega
          · rw [show npS K F f (fun _ => none) (fS F f) = none from hb1]
            show Ex S rm_search 84 [some (.ref 38), some (.int (nI (w))), some (.int (bI (y))), some (.int (nI (a))), some (.int (1)), some (.int (-1)), none] [] h6 _
            refine Ex_iload d_rm_search_84 rfl ?_
            refine Ex_if_geZ ((-1)) 117 d_rm_search_86 rfl (by decide) (by omega) (fun hc86 => ?_) (fun hc86 => ?_)
            · exact absurd hc86 (by decide)
            · have f7 : Fr (fun a k => a = 38 ∧ (k = 51 ∨ k = 53)) h6 (wI (wI h6 38 51 (nI (0 + 1))) 38 53 0) := (Fr.rf.sI ⟨rfl, Or.inl rfl⟩).sI ⟨rfl, Or.inr rfl⟩
              have fr7 : Fr (WSM f) h (wI (wI h6 38 51 (nI (0 + 1))) 38 53 0) := fr6.tr (f7.mono (fun a k z => by unfold WSM; omega))
              have hm7 : 74 ≤ mN (wI (wI h6 38 51 (nI (0 + 1))) 38 53 0) := hm6
              refine Ex_aload_n d_rm_search_89 rfl ?_
              refine Ex_dup rfl d_rm_search_90 ?_
              refine Ex_getIE (y := (nI (0))) d_rm_search_91 pf_rm_319 rfl (t_38 hs6) g51 ?_
              refine Ex_iconst d_rm_search_94 ic_1 ?_
              refine Ex_iaddN (0) (1) d_rm_search_95 rfl rfl ?_
              refine Ex_putI d_rm_search_96 pf_rm_319 (Or.inl rfl) (t_38 hs6) (Or.inl rfl) ?_
              refine Ex_aload_n d_rm_search_99 rfl ?_
              refine Ex_aload_n d_rm_search_100 rfl ?_
              refine Ex_getIE (y := (0 : Int32)) d_rm_search_101 pf_rm_313 rfl (t_38 hs6) (by rw [mI_oth (Or.inr (by decide))]; exact g52) ?_
              refine Ex_putI d_rm_search_104 pf_rm_322 (Or.inl rfl) (t_38 hs6) (Or.inl rfl) ?_
              refine Ex_aload_n d_rm_search_107 rfl ?_
              refine Ex_cV0 d_rm_search_108 pk_rm_search_338 (t_38 hs6) (rm_show_s (h := (wI (wI h6 38 51 (nI (0 + 1))) 38 53 0)) (L := fun _ => none) (l := fS F f) (n := n) (o := o) hs6 (KM_sr hs fr7 hK) hO hFO hf (FT1_sr hs fr7 hF) (SM_fr hs6 f7 (by omega) (by omega) (by omega) hM6) (OM_fr hs6 f7 (by omega) (by omega) hQ6)) ?_
              rintro rv h8 ⟨rfl, c8⟩
              have fr8 : Fr (WSM f) h h8 := fr7.tr (c8.1.mono Wsh_sr)
              have hs8 : HT h8 := fr8.ht hs (WSM_st f)
              have k51 : mI h8 38 51 = nI (0 + 1) := by rw [c8.1.I (by omega) (by unfold Wsh; omega), mI_oth (Or.inr (by decide)), mI_self]
              have k54 : mI h8 38 54 = 0 := by rw [c8.1.I (by omega) (by unfold Wsh; omega), f7.I (by omega) (by omega)]; exact g54
              have k49 : mI h8 38 49 = 0 := by rw [c8.1.I (by omega) (by unfold Wsh; omega), f7.I (by omega) (by omega)]; exact g49
              have hsE : sE f (srS K F f w y) h h8 := by
                unfold srS
                rw [show npS K F f (fun _ => none) (fS F f) = none from hb1]
                refine ⟨fr8, ⟨k51, ?_, ?_, k54⟩, fun k hk => ?_⟩
                · rw [c8.1.I (by omega) (by unfold Wsh; omega), mI_self]; rfl
                · rw [c8.1.I (by omega) (by unfold Wsh; omega), f7.I (by omega) (by omega)]; exact g41
                · rw [c8.2 k hk, f7.I (by omega) (by omega), g67 k hk]
                  show _ = eP (if opF F f k then none else none)
                  split <;> split <;> rfl
              show Ex S rm_search 111 [some (.ref 38), some (.int (nI (w))), some (.int (bI (y))), some (.int (nI (a))), some (.int (1)), some (.int (-1)), none] [] h8 _
              refine Ex_iconst d_rm_search_111 ic_0 ?_
              refine Ex_istore [some (.ref 38), some (.int (nI (w))), some (.int (bI (y))), some (.int (nI (a))), some (.int (0)), some (.int (-1)), none] d_rm_search_112 (Nat.le_of_ble_eq_true rfl) rfl ?_
              refine Ex_goto 46 d_rm_search_114 rfl ?_
              refine Ex_aload_n d_rm_search_46 rfl ?_
              refine Ex_getIE (y := (nI (0 + 1))) d_rm_search_47 pf_rm_319 rfl (t_38 hs8) k51 ?_
              refine Ex_iload_n d_rm_search_50 rfl ?_
              refine Ex_icmp_geN (0 + 1) (w) 377 d_rm_search_51 rfl rfl rfl (by omega) (by omega) (fun hc51 => ?_) (fun hc51 => ?_)
              · refine Ex_return d_rm_search_377 rfl ?_
                exact ⟨rfl, hsE⟩
              · refine Ex_aload_n d_rm_search_54 rfl ?_
                refine Ex_getIE (y := (0 : Int32)) d_rm_search_55 pf_rm_325 rfl (t_38 hs8) k54 ?_
                refine Ex_if_neN (0) 377 d_rm_search_58 rfl rfl (by omega) (fun hc58 => ?_) (fun hc58 => ?_)
                · exact absurd hc58 (by decide)
                · refine Ex_iload d_rm_search_61 rfl ?_
                  refine Ex_if_neN (0) 73 d_rm_search_63 rfl rfl (by omega) (fun hc63 => ?_) (fun hc63 => ?_)
                  · exact absurd hc63 (by decide)
                  · refine Ex_aload_n d_rm_search_66 rfl ?_
                    refine Ex_getIE (y := (nI (0))) d_rm_search_67 pf_rm_329 rfl (t_38 hs8) k49 ?_
                    refine Ex_if_leN (0) 377 d_rm_search_70 rfl rfl (by omega) (fun hc70 => ?_) (fun hc70 => ?_)
                    · refine Ex_return d_rm_search_377 rfl ?_
                      exact ⟨rfl, hsE⟩
                    · exfalso; omega
      · exact absurd hc63 (by decide)
theorem rm_search_s {S : mj_S} {h : mj_H} (hs : HT h) {K : SK} (hK : KM K h) (hO : KO K) {F : SF} (hFO : FO K.1 F) {f : Nat} (hf : f < F.1) (hF : FT1 F f h) (hM : SM K.1 F f (fun _ => none) (fS F f) h) {n : Nat} {o : Nat → Nat} (hQ : OM F f n o h) (he : mI h 38 41 = nI (fE F)) (hG : ∀ k, k < 64 → mI h 67 (64 * f + k) = 0) {w : Nat} (hw : 1 ≤ w ∧ w < 2147483648) {y : Bool} : Cl S rm_search [.ref 38, .int (nI (w)), .int (bI (y))] h (fun r h' => r = none ∧ sE f (srS K F f w y) h h') := by
  show Ex S rm_search 0 [some (.ref 38), some (.int (nI (w))), some (.int (bI (y))), none, none, none, none] [] h _
  have hn := HT_n hs
  have hk40 := hO.1
  have hf6 := hFO.1
  have f06 : Fr (fun a k => a = 38 ∧ 49 ≤ k ∧ k ≤ 54) h (wI (wI (wI (wI (wI (wI h 38 50 0) 38 51 0) 38 52 0) 38 53 (-1)) 38 54 0) 38 49 0) := (((((Fr.rf.sI (by omega)).sI (by omega)).sI (by omega)).sI (by omega)).sI (by omega)).sI (by omega)
  have fr6 : Fr (WSM f) h (wI (wI (wI (wI (wI (wI h 38 50 0) 38 51 0) 38 52 0) 38 53 (-1)) 38 54 0) 38 49 0) := f06.mono (fun a k z => by unfold WSM; omega)
  refine Ex_aload_n d_rm_search_0 rfl ?_
  refine Ex_iconst d_rm_search_1 ic_0 ?_
  refine Ex_putI d_rm_search_2 pf_rm_316 (Or.inl rfl) (t_38 hs) (Or.inl rfl) ?_
  refine Ex_aload_n d_rm_search_5 rfl ?_
  refine Ex_iconst d_rm_search_6 ic_0 ?_
  refine Ex_putI d_rm_search_7 pf_rm_319 (Or.inl rfl) (t_38 hs) (Or.inl rfl) ?_
  refine Ex_aload_n d_rm_search_10 rfl ?_
  refine Ex_iconst d_rm_search_11 ic_0 ?_
  refine Ex_putI d_rm_search_12 pf_rm_313 (Or.inl rfl) (t_38 hs) (Or.inl rfl) ?_
  refine Ex_aload_n d_rm_search_15 rfl ?_
  refine Ex_iconst d_rm_search_16 ic_m1 ?_
  refine Ex_putI d_rm_search_17 pf_rm_322 (Or.inl rfl) (t_38 hs) (Or.inl rfl) ?_
  refine Ex_aload_n d_rm_search_20 rfl ?_
  refine Ex_iconst d_rm_search_21 ic_0 ?_
  refine Ex_putI d_rm_search_22 pf_rm_325 (Or.inl rfl) (t_38 hs) (Or.inr ⟨rfl, (by decide)⟩) ?_
  refine Ex_aload_n d_rm_search_25 rfl ?_
  refine Ex_iconst d_rm_search_26 ic_0 ?_
  refine Ex_putI d_rm_search_27 pf_rm_329 (Or.inl rfl) (t_38 hs) (Or.inl rfl) ?_
  refine Ex_iload_n d_rm_search_30 rfl ?_
  refine Ex_if_eqB (y) 41 d_rm_search_31 rfl rfl (fun hc31 => ?_) (fun hc31 => ?_)
  · refine Ex_iconst d_rm_search_41 ic_0 ?_
    refine Ex_istore_n [some (.ref 38), some (.int (nI (w))), some (.int (bI (y))), some (.int (0)), none, none, none] d_rm_search_42 (Nat.le_of_ble_eq_true rfl) rfl ?_
    refine Ex_iconst d_rm_search_43 ic_1 ?_
    refine Ex_istore [some (.ref 38), some (.int (nI (w))), some (.int (bI (y))), some (.int (0)), some (.int (1)), none, none] d_rm_search_44 (Nat.le_of_ble_eq_true rfl) rfl ?_
    exact rm_search_E hs hK hO hFO hf hF hM hQ he hG hw (a := 0) (by unfold lcA; rw [hc31]; rfl) (by omega)
  · refine Ex_aload_n d_rm_search_34 rfl ?_
    refine Ex_pV0 (v := .int (nI ((lcS K (fS F f) K.1).getD 0))) d_rm_search_35 pk_rm_search_332 (t_38 hs) (rm_leastCost_s (h := (wI (wI (wI (wI (wI (wI h 38 50 0) 38 51 0) 38 52 0) 38 53 (-1)) 38 54 0) 38 49 0)) hs (KM_sr hs fr6 hK) hO hFO hf (FT1_sr hs fr6 hF) (L := fun _ => none) (fun _ => trivial) (l := fS F f) (SM_fr hs f06 (by omega) (by omega) (by omega) hM)) ?_
    refine Ex_goto 42 d_rm_search_38 rfl ?_
    refine Ex_istore_n [some (.ref 38), some (.int (nI (w))), some (.int (bI (y))), some (.int (nI ((lcS K (fS F f) K.1).getD 0))), none, none, none] d_rm_search_42 (Nat.le_of_ble_eq_true rfl) rfl ?_
    refine Ex_iconst d_rm_search_43 ic_1 ?_
    refine Ex_istore [some (.ref 38), some (.int (nI (w))), some (.int (bI (y))), some (.int (nI ((lcS K (fS F f) K.1).getD 0))), some (.int (1)), none, none] d_rm_search_44 (Nat.le_of_ble_eq_true rfl) rfl ?_
    have hle : (lcS K (fS F f) K.1).getD 0 ≤ 1000 := by
      have z := lcS_le hO (fS F f) K.1 (Nat.le_refl _)
      generalize lcS K (fS F f) K.1 = r at z
      rcases r with _ | v
      · exact Nat.zero_le _
      · exact z v rfl
    exact rm_search_E hs hK hO hFO hf hF hM hQ he hG hw (by unfold lcA; rw [hc31]; rfl) hle
