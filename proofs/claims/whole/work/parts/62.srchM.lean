/-! THE SEARCH of the reference follows the machine of turns. -/
theorem scA1 {g p : Nat → Bool} : ∀ e t, sc g e t 0 = none → sc (fun n => g n && p n) e t 0 = none
  | 0, _, _ => rfl
  | e + 1, t, h => by
    by_cases hg : g t = true
    · rw [sc_t0 hg] at h; cases h
    · rw [sc_f hg] at h
      rw [sc_f (by rw [Bool.and_eq_true]; exact fun z => hg z.1)]
      exact scA1 e (t + 1) h
theorem scA2 {g p : Nat → Bool} {x : Nat} (hp : p x = true) : ∀ e t, sc g e t 0 = some x → sc (fun n => g n && p n) e t 0 = some x
  | 0, _, h => by cases h
  | e + 1, t, h => by
    by_cases hg : g t = true
    · rw [sc_t0 hg] at h
      obtain rfl := Option.some.inj h
      exact sc_t0 (by rw [Bool.and_eq_true]; exact ⟨hg, hp⟩) e
    · rw [sc_f hg] at h
      rw [sc_f (by rw [Bool.and_eq_true]; exact fun z => hg z.1)]
      exact scA2 hp e (t + 1) h
theorem scA3 {g p : Nat → Bool} {x : Nat} (hp : p x = false) : ∀ e t, sc g e t 0 = some x → sc (fun n => g n && p n) e t 0 = sc (fun n => g n && p n) (t + e - (x + 1)) (x + 1) 0
  | 0, _, h => by cases h
  | e + 1, t, h => by
    by_cases hg : g t = true
    · rw [sc_t0 hg] at h
      obtain rfl := Option.some.inj h
      rw [sc_f (by rw [hp, Bool.and_false]; decide), show t + (e + 1) - (t + 1) = e by omega]
    · rw [sc_f hg] at h
      rw [sc_f (by rw [Bool.and_eq_true]; exact fun z => hg z.1), scA3 hp e (t + 1) h, show t + 1 + e - (x + 1) = t + (e + 1) - (x + 1) by omega]
def bsZ (Z : ZS) : Int := if zf Z = 0 then -1 else (zb Z : Int)
def ZM (K : SK) (F : SF) (f n : Nat) (o : Nat → Nat) (Z : ZS) (h : mj_H) : Prop := (SM K.1 F f (zL Z) (zl Z) h ∧ OM F f n o h) ∧ (∀ i, i ≤ zd Z → mI h 72 i = nI (zp Z i) ∧ mI h 73 i = J ((zt Z i : Int) - 1)) ∧ ((mI h 38 50 = nI (zs Z) ∧ mI h 38 51 = nI (zf Z)) ∧ (mI h 38 52 = nI (zc Z) ∧ mI h 38 53 = J (bsZ Z)) ∧ mI h 38 41 = nI (ze Z) ∧ mI h 38 54 = 0) ∧ (∀ k, k < 64 → mI h 67 (64 * f + k) = eP (zG Z k)) ∧ ∀ k, ¬ opF F f k → zG Z k = none
theorem SM_fr {W : Nat → Nat → Prop} {n : Nat} {F : SF} {f : Nat} {L : Nat → Pl} {l : Nat → Nat} {h h1 : mj_H} (hs : HT h) (fr : Fr W h h1) (h1w : ¬ W 38 42) (h2w : ∀ k, ¬ W 69 k) (h3w : ∀ k, ¬ W 70 k) (hM : SM n F f L l h) : SM n F f L l h1 := by
  have hn := HT_n hs
  refine ⟨?_, fun k hk hi => ?_, fun k hk => ?_⟩
  · rw [fr.I (by omega) h1w]; exact hM.1
  · rw [fr.I (by omega) (h2w k)]; exact hM.2.1 k hk hi
  · rw [fr.I (by omega) (h3w k)]; exact hM.2.2 k hk
theorem OM_fr {W : Nat → Nat → Prop} {F : SF} {f n : Nat} {o : Nat → Nat} {h h1 : mj_H} (hs : HT h) (fr : Fr W h h1) (h1w : ¬ W 38 43) (h2w : ∀ k, ¬ W 71 k) (hM : OM F f n o h) : OM F f n o h1 := by
  have hn := HT_n hs
  refine ⟨hM.1, ?_, fun k hk => ?_⟩
  · rw [fr.I (by omega) h1w]; exact hM.2.1
  · rw [fr.I (by omega) (h2w k)]; exact hM.2.2 k hk
theorem ZM_dep {K : SK} {F : SF} {f n : Nat} {o : Nat → Nat} {Z : ZS} {h : mj_H} (hs : HT h) (z : ZM K F f n o Z h) (v : Int32) : ZM K F f n o Z (wI h 38 49 v) := by
  obtain ⟨⟨a1, a2⟩, a3, ⟨⟨b1, b2⟩, ⟨b3, b4⟩, b5, b6⟩, a4, a5⟩ := z
  have fr : Fr (fun a k => a = 38 ∧ k = 49) h (wI h 38 49 v) := Fr.rf.sI ⟨rfl, rfl⟩
  refine ⟨⟨SM_fr hs fr (by omega) (by omega) (by omega) a1, OM_fr hs fr (by omega) (by omega) a2⟩, fun i hi => ?_, ⟨⟨?_, ?_⟩, ⟨?_, ?_⟩, ?_, ?_⟩, fun k hk => ?_, a5⟩
  · rw [mI_oth (Or.inl (by decide)), mI_oth (Or.inl (by decide))]; exact a3 i hi
  · rw [mI_oth (Or.inr (by decide))]; exact b1
  · rw [mI_oth (Or.inr (by decide))]; exact b2
  · rw [mI_oth (Or.inr (by decide))]; exact b3
  · rw [mI_oth (Or.inr (by decide))]; exact b4
  · rw [mI_oth (Or.inr (by decide))]; exact b5
  · rw [mI_oth (Or.inr (by decide))]; exact b6
  · rw [mI_oth (Or.inl (by decide))]; exact a4 k hk
theorem ZM_pu {K : SK} {F : SF} {f n : Nat} {o : Nat → Nat} {Z : ZS} {h : mj_H} (hs : HT h) (z : ZM K F f n o Z h) (b : Nat) {v : Int32} : ZM K F f n o (puZ Z b) (wI (wI (wI h 72 (zd Z + 1) (nI b)) 73 (zd Z + 1) (-1)) 38 49 v) := by
  obtain ⟨⟨a1, a2⟩, a3, ⟨⟨b1, b2⟩, ⟨b3, b4⟩, b5, b6⟩, a4, a5⟩ := z
  have fr : Fr (fun a k => a = 72 ∨ a = 73 ∨ (a = 38 ∧ k = 49)) h (wI (wI (wI h 72 (zd Z + 1) (nI b)) 73 (zd Z + 1) (-1)) 38 49 v) := ((Fr.rf.sI (Or.inl rfl)).sI (Or.inr (Or.inl rfl))).sI (Or.inr (Or.inr ⟨rfl, rfl⟩))
  have hn := HT_n hs
  refine ⟨⟨SM_fr hs fr (by omega) (by omega) (by omega) a1, OM_fr hs fr (by omega) (by omega) a2⟩, fun i hi => ?_, ⟨⟨?_, ?_⟩, ⟨?_, ?_⟩, ?_, ?_⟩, fun k hk => ?_, a5⟩
  · have hi : i ≤ zd Z + 1 := hi
    show _ = nI (va_up (zp Z) (zd Z + 1) b i) ∧ _ = J ((va_up (zt Z) (zd Z + 1) 0 i : Nat) - 1)
    unfold va_up
    by_cases w : i = zd Z + 1
    · subst w
      rw [if_pos rfl, if_pos rfl]
      refine ⟨?_, ?_⟩
      · rw [mI_oth (Or.inl (by decide)), mI_oth (Or.inl (by decide)), mI_self]
      · rw [mI_oth (Or.inl (by decide)), mI_self]; rfl
    · rw [if_neg w, if_neg w]
      refine ⟨?_, ?_⟩
      · rw [mI_oth (Or.inl (by decide)), mI_oth (Or.inl (by decide)), mI_oth (Or.inr w)]; exact (a3 i (by omega)).1
      · rw [mI_oth (Or.inl (by decide)), mI_oth (Or.inr w), mI_oth (Or.inl (by decide))]; exact (a3 i (by omega)).2
  · rw [fr.I (by omega) (by omega)]; exact b1
  · rw [fr.I (by omega) (by omega)]; exact b2
  · rw [fr.I (by omega) (by omega)]; exact b3
  · rw [fr.I (by omega) (by omega)]; exact b4
  · rw [fr.I (by omega) (by omega)]; exact b5
  · rw [fr.I (by omega) (by omega)]; exact b6
  · rw [fr.I (by omega) (by omega)]; exact a4 k hk
theorem ZM_la {K : SK} {F : SF} {f n : Nat} {o : Nat → Nat} {Z : ZS} {h h1 : mj_H} (hs : HT h) (z : ZM K F f n o Z h) {x : Nat} (hM : SM K.1 F f (zL (laZ K Z x)) (zl (laZ K Z x)) h1) (hc : mI h1 38 52 = nI (zc Z + kC K (x / 8))) (fr1 : Fr Wly (wI (wI (wI h 38 50 (nI (zs Z + 1))) 38 41 (nI (ze Z + 1))) 73 (zd Z) (nI x)) h1) : ZM K F f n o (laZ K Z x) h1 := by
  obtain ⟨⟨a1, a2⟩, a3, ⟨⟨b1, b2⟩, ⟨b3, b4⟩, b5, b6⟩, a4, a5⟩ := z
  have fr0 : Fr (fun a k => (a = 73 ∧ k = zd Z) ∨ (a = 38 ∧ (k = 50 ∨ k = 41))) h (wI (wI (wI h 38 50 (nI (zs Z + 1))) 38 41 (nI (ze Z + 1))) 73 (zd Z) (nI x)) := ((Fr.rf.sI (Or.inr ⟨rfl, Or.inl rfl⟩)).sI (Or.inr ⟨rfl, Or.inr rfl⟩)).sI (Or.inl ⟨rfl, rfl⟩)
  have hn := HT_n hs
  have hn1 : mN (wI (wI (wI h 38 50 (nI (zs Z + 1))) 38 41 (nI (ze Z + 1))) 73 (zd Z) (nI x)) = mN h := rfl
  have hs0 : HT (wI (wI (wI h 38 50 (nI (zs Z + 1))) 38 41 (nI (ze Z + 1))) 73 (zd Z) (nI x)) := hs
  refine ⟨⟨hM, OM_fr hs0 fr1 (by unfold Wly; omega) (by unfold Wly; omega) (OM_fr hs fr0 (by omega) (by omega) a2)⟩, fun i hi => ?_, ⟨⟨?_, ?_⟩, ⟨hc, ?_⟩, ?_, ?_⟩, fun k hk => ?_, a5⟩
  · have hi : i ≤ zd Z := hi
    show _ = nI (zp Z i) ∧ _ = J ((va_up (zt Z) (zd Z) (x + 1) i : Nat) - 1)
    rw [fr1.I (by omega) (by unfold Wly; omega), fr1.I (by omega) (by unfold Wly; omega)]
    unfold va_up
    by_cases w : i = zd Z
    · subst w
      rw [if_pos rfl, mI_oth (Or.inl (by decide)), mI_oth (Or.inl (by decide)), mI_oth (Or.inl (by decide)), mI_self]
      exact ⟨(a3 _ hi).1, by rw [nIJ]; congr 1; omega⟩
    · rw [if_neg w, fr0.I (by omega) (by omega), fr0.I (by omega) (by omega)]
      exact a3 i hi
  · rw [fr1.I (by omega) (by unfold Wly; omega), mI_oth (Or.inl (by decide)), mI_oth (Or.inr (by decide)), mI_self]; rfl
  · rw [fr1.I (by omega) (by unfold Wly; omega), fr0.I (by omega) (by omega)]; exact b2
  · rw [fr1.I (by omega) (by unfold Wly; omega), fr0.I (by omega) (by omega)]; exact b4
  · rw [fr1.I (by omega) (by unfold Wly; omega), mI_oth (Or.inl (by decide)), mI_self]; rfl
  · rw [fr1.I (by omega) (by unfold Wly; omega), fr0.I (by omega) (by omega)]; exact b6
  · rw [fr1.I (by omega) (by unfold Wly; omega), fr0.I (by omega) (by omega)]; exact a4 k hk
theorem ZM_fi {K : SK} {F : SF} {f n : Nat} {o : Nat → Nat} {Z : ZS} {h h1 : mj_H} (hs : HT h) (z : ZM K F f n o Z h) (w : shW F f (zL Z) 64 (wI (wI h 38 51 (nI (zf Z + 1))) 38 53 (nI (zc Z))) h1) : ZM K F f n o (fiZ F f Z) h1 := by
  obtain ⟨⟨a1, a2⟩, a3, ⟨⟨b1, b2⟩, ⟨b3, b4⟩, b5, b6⟩, a4, a5⟩ := z
  obtain ⟨fr1, w⟩ := w
  have fr0 : Fr (fun a k => a = 38 ∧ (k = 51 ∨ k = 53)) h (wI (wI h 38 51 (nI (zf Z + 1))) 38 53 (nI (zc Z))) := (Fr.rf.sI ⟨rfl, Or.inl rfl⟩).sI ⟨rfl, Or.inr rfl⟩
  have hn := HT_n hs
  have hn1 : mN (wI (wI h 38 51 (nI (zf Z + 1))) 38 53 (nI (zc Z))) = mN h := rfl
  have hs0 : HT (wI (wI h 38 51 (nI (zf Z + 1))) 38 53 (nI (zc Z))) := hs
  refine ⟨⟨SM_fr hs0 fr1 (by unfold Wsh; omega) (by unfold Wsh; omega) (by unfold Wsh; omega) (SM_fr hs fr0 (by omega) (by omega) (by omega) a1), OM_fr hs0 fr1 (by unfold Wsh; omega) (by unfold Wsh; omega) (OM_fr hs fr0 (by omega) (by omega) a2)⟩, fun i hi => ?_, ⟨⟨?_, ?_⟩, ⟨?_, ?_⟩, ?_, ?_⟩, fun k hk => ?_, fun k hk => if_neg hk⟩
  · rw [fr1.I (by omega) (by unfold Wsh; omega), fr1.I (by omega) (by unfold Wsh; omega), fr0.I (by omega) (by omega), fr0.I (by omega) (by omega)]; exact a3 i hi
  · rw [fr1.I (by omega) (by unfold Wsh; omega), fr0.I (by omega) (by omega)]; exact b1
  · rw [fr1.I (by omega) (by unfold Wsh; omega), mI_oth (Or.inr (by decide)), mI_self]; rfl
  · rw [fr1.I (by omega) (by unfold Wsh; omega), fr0.I (by omega) (by omega)]; exact b3
  · rw [fr1.I (by omega) (by unfold Wsh; omega), mI_self, nIJ]
    show J (zc Z : Int) = J (if zf Z + 1 = 0 then -1 else (zc Z : Int))
    rw [if_neg (by omega)]
  · rw [fr1.I (by omega) (by unfold Wsh; omega), fr0.I (by omega) (by omega)]; exact b5
  · rw [fr1.I (by omega) (by unfold Wsh; omega), fr0.I (by omega) (by omega)]; exact b6
  · rw [w k hk, fr0.I (by omega) (by omega), a4 k hk]
    show _ = eP (if opF F f k then zL Z k else none)
    by_cases q : opF F f k
    · rw [if_pos ⟨hk, q⟩, if_pos q]
    · rw [if_neg (fun w => q w.2), if_neg q, a5 k q]
theorem ZM_li {K : SK} {F : SF} {f n : Nat} {o : Nat → Nat} {Z : ZS} {h h1 : mj_H} (hs : HT h) (z : ZM K F f n o Z h) {e : Nat} (he : e ≤ zd Z) (hM : SM K.1 F f (zL (liZ K Z e)) (zl (liZ K Z e)) h1) (hc : mI h1 38 52 = nI (zc Z - kC K (qZ Z e))) (fr1 : Fr Wly h h1) : ZM K F f n o (liZ K Z e) h1 := by
  obtain ⟨⟨a1, a2⟩, a3, ⟨⟨b1, b2⟩, ⟨b3, b4⟩, b5, b6⟩, a4, a5⟩ := z
  have hn := HT_n hs
  refine ⟨⟨hM, OM_fr hs fr1 (by unfold Wly; omega) (by unfold Wly; omega) a2⟩, fun i hi => ?_, ⟨⟨?_, ?_⟩, ⟨hc, ?_⟩, ?_, ?_⟩, fun k hk => ?_, a5⟩
  · have hi : i ≤ e := hi
    rw [fr1.I (by omega) (by unfold Wly; omega), fr1.I (by omega) (by unfold Wly; omega)]; exact a3 i (by omega)
  · rw [fr1.I (by omega) (by unfold Wly; omega)]; exact b1
  · rw [fr1.I (by omega) (by unfold Wly; omega)]; exact b2
  · rw [fr1.I (by omega) (by unfold Wly; omega)]; exact b4
  · rw [fr1.I (by omega) (by unfold Wly; omega)]; exact b5
  · rw [fr1.I (by omega) (by unfold Wly; omega)]; exact b6
  · rw [fr1.I (by omega) (by unfold Wly; omega)]; exact a4 k hk
theorem LyI_lb {K : SK} {F : SF} (hFO : FO K.1 F) {f n m : Nat} (hf : f < F.1) {L : Nat → Pl} {l p t : Nat → Nat} {c : Nat} (h : LyI K F f n m L l p t c) : ∀ k, k < 40 → l k < 2147483648 := fun k hk => by
  have := LyI_l hFO hf h k hk
  omega
theorem rm_search_I {S : mj_S} {Q : Option Value → mj_H → Prop} {h : mj_H} (hs : HT h) {K : SK} (hK : KM K h) (hO : KO K) {F : SF} (hFO : FO K.1 F) {f : Nat} (hf : f < F.1) (hF : FT1 F f h) {n : Nat} {o : Nat → Nat} {w : Nat} (hw : w < 2147483648) {y : Bool} {a : Nat} (ha : a ≤ 1000) {Z : ZS} {v4 : Int32} (hZ : ZM K F f n o Z h) (hd : mI h 38 49 = nI (zd Z + 1)) (hI : zO K F f n Z)
    (kx : Ex S rm_search 274 [some (.ref 38), some (.int (nI (w))), some (.int (bI (y))), some (.int (nI (a))), some (.int (v4)), some (.int (nI (zd Z))), some (.int (J (vN (nxS K F f n y a Z))))] [] h Q) : ∀ e t : Nat, t + e = 8 * K.1 → sc (fun x => fitB K F f (zL Z) (zl Z) (zp Z (zd Z)) x && !psB K n y a Z x) e t 0 = nxS K F f n y a Z → Ex S rm_search 204 [some (.ref 38), some (.int (nI (w))), some (.int (bI (y))), some (.int (nI (a))), some (.int (v4)), some (.int (nI (zd Z))), some (.int (J (vN (sc (fitB K F f (zL Z) (zl Z) (zp Z (zd Z))) e t 0))))] [] h Q := by
  have hn := HT_n hs
  have hk40 := hO.1
  have hf6 := hFO.1
  have hL := LyI_ok hI.1.1
  have hl := LyI_lb hFO hf hI.1.1
  have hn64 := EnO_le hZ.1.2.1
  have hcc : zc Z ≤ 64000 := by have := cS_le hO (zd Z) (fun i hi => (hI.1.1.2.1 i hi).2.1); have := hI.1.1.2.2.2.2.2; have := hI.2.1; omega
  have hbb := hI.1.2.1.2.2.2
  have hff := hI.1.2.1
  have hdn := hI.2.1
  obtain ⟨⟨b1, b2⟩, ⟨b3, b4⟩, b5, b6⟩ := hZ.2.2.1
  intro e
  induction e using Nat.strongRecOn with
  | _ e ih =>
    intro t hte hr
    have hn1 := scA1 (g := (fitB K F f (zL Z) (zl Z) (zp Z (zd Z)))) (p := fun x => !psB K n y a Z x) e t
    have hn2 := fun x (hp : (!psB K n y a Z x) = true) => scA2 (g := (fitB K F f (zL Z) (zl Z) (zp Z (zd Z)))) (p := fun x => !psB K n y a Z x) hp e t
    have hn3 := fun x (hp : (!psB K n y a Z x) = false) => scA3 (g := (fitB K F f (zL Z) (zl Z) (zp Z (zd Z)))) (p := fun x => !psB K n y a Z x) hp e t
    have hn4 := fun x => sc_b (g := (fitB K F f (zL Z) (zl Z) (zp Z (zd Z)))) e t (n := x)
    generalize sc (fitB K F f (zL Z) (zl Z) (zp Z (zd Z))) e t 0 = r at hn1 hn2 hn3 hn4
    rcases r with _ | x
    · show Ex S rm_search 204 [some (.ref 38), some (.int (nI (w))), some (.int (bI (y))), some (.int (nI (a))), some (.int (v4)), some (.int (nI (zd Z))), some (.int (-1))] [] h Q
      refine Ex_iload d_rm_search_204 rfl ?_
      refine Ex_if_ltZ ((-1)) 274 d_rm_search_206 rfl (by decide) (by omega) (fun hc206 => ?_) (fun hc206 => ?_)
      · rw [hn1 rfl] at hr
        rw [← hr] at kx
        exact kx
      · exact absurd hc206 (by decide)
    · obtain ⟨q1, q2, q3, q4⟩ := hn4 x rfl
      show Ex S rm_search 204 [some (.ref 38), some (.int (nI (w))), some (.int (bI (y))), some (.int (nI (a))), some (.int (v4)), some (.int (nI (zd Z))), some (.int (J ((x : Int))))] [] h Q
      rw [← nIJ]
      refine Ex_iload d_rm_search_204 rfl ?_
      refine Ex_if_ltN (x) 274 d_rm_search_206 rfl rfl (by omega) (fun hc206 => ?_) (fun hc206 => ?_)
      · exfalso; omega
      · refine Ex_iload_n d_rm_search_209 rfl ?_
        refine Ex_if_eqB (y) 274 d_rm_search_210 rfl rfl (fun hc210 => ?_) (fun hc210 => ?_)
        · rw [hn2 x (by rw [Bool.not_eq_true', psB, decide_eq_false_iff_not]; rintro ⟨p1, p2, p3⟩; first | exact absurd (p1.symm.trans hc210) (by decide) | (unfold bsZ at hc217; split at hc217 <;> omega) | (unfold bsZ at hc251; rw [if_neg (by omega)] at hc251; rw [show n - (zd Z + 1) = n - zd Z - 1 by omega] at hc251; omega)) rfl] at hr
          rw [← hr, show vN (some x) = (x : Int) from rfl, ← nIJ] at kx
          exact kx
        · refine Ex_aload_n d_rm_search_213 rfl ?_
          refine Ex_getIE (y := (J (bsZ Z))) d_rm_search_214 pf_rm_322 rfl (t_38 hs) b4 ?_
          refine Ex_if_ltZ (bsZ Z) 274 d_rm_search_217 rfl rfl (by unfold bsZ; split <;> omega) (fun hc217 => ?_) (fun hc217 => ?_)
          · rw [hn2 x (by rw [Bool.not_eq_true', psB, decide_eq_false_iff_not]; rintro ⟨p1, p2, p3⟩; first | exact absurd (p1.symm.trans hc210) (by decide) | (unfold bsZ at hc217; split at hc217 <;> omega) | (unfold bsZ at hc251; rw [if_neg (by omega)] at hc251; rw [show n - (zd Z + 1) = n - zd Z - 1 by omega] at hc251; omega)) rfl] at hr
            rw [← hr, show vN (some x) = (x : Int) from rfl, ← nIJ] at kx
            exact kx
          · refine Ex_aload_n d_rm_search_220 rfl ?_
            refine Ex_getIE (y := (nI (zc Z))) d_rm_search_221 pf_rm_313 rfl (t_38 hs) b3 ?_
            refine Ex_aload_n d_rm_search_224 rfl ?_
            refine Ex_getR (v := .ref 41) d_rm_search_225 pf_rm_16 rfl (t_38 hs) (r_38_2 hs) ?_
            refine Ex_iload d_rm_search_228 rfl ?_
            refine Ex_bipush d_rm_search_230 bp_8 ?_
            refine Ex_idivN (x) (8) d_rm_search_232 rfl rfl (by omega) (by omega) ?_
            refine Ex_ialoadN (a := x / 8) (y := (nI (kC K (x / 8)))) d_rm_search_233 (t_41 hs) rfl (by omega) (by decide) ((hK.2 _ (by omega)).2.2.1) ?_
            refine Ex_iaddN (zc Z) (kC K (x / 8)) d_rm_search_234 rfl rfl ?_
            refine Ex_iload_n d_rm_search_235 rfl ?_
            refine Ex_aload_n d_rm_search_236 rfl ?_
            refine Ex_getIE (y := (nI (n))) d_rm_search_237 pf_rm_307 rfl (t_38 hs) hZ.1.2.2.1 ?_
            refine Ex_aload_n d_rm_search_240 rfl ?_
            refine Ex_getIE (y := (nI (zd Z + 1))) d_rm_search_241 pf_rm_329 rfl (t_38 hs) hd ?_
            refine Ex_isubN (n) (zd Z + 1) d_rm_search_244 rfl rfl (by omega) ?_
            refine Ex_imulN (a) (n - (zd Z + 1)) d_rm_search_245 rfl rfl ?_
            refine Ex_iaddN ((zc Z) + (kC K (x / 8))) (a * (n - (zd Z + 1))) d_rm_search_246 rfl rfl ?_
            refine Ex_aload_n d_rm_search_247 rfl ?_
            refine Ex_getIE (y := (J (bsZ Z))) d_rm_search_248 pf_rm_322 rfl (t_38 hs) b4 ?_
            refine Ex_icmp_ltZ (((((zc Z) + (kC K (x / 8))) + (a * (n - (zd Z + 1))) : Nat) : Int)) (bsZ Z) 274 d_rm_search_251 rfl (nIJ _) rfl (by have hkc := (hO.2 (x / 8) (by omega)).2.2; have hmul : a * (n - (zd Z + 1)) ≤ 1000 * 64 := Nat.mul_le_mul ha (by omega); first | omega | (unfold bsZ; split <;> omega)) (by have hkc := (hO.2 (x / 8) (by omega)).2.2; have hmul : a * (n - (zd Z + 1)) ≤ 1000 * 64 := Nat.mul_le_mul ha (by omega); first | omega | (unfold bsZ; split <;> omega)) (fun hc251 => ?_) (fun hc251 => ?_)
            · rw [hn2 x (by rw [Bool.not_eq_true', psB, decide_eq_false_iff_not]; rintro ⟨p1, p2, p3⟩; first | exact absurd (p1.symm.trans hc210) (by decide) | (unfold bsZ at hc217; split at hc217 <;> omega) | (unfold bsZ at hc251; rw [if_neg (by omega)] at hc251; rw [show n - (zd Z + 1) = n - zd Z - 1 by omega] at hc251; omega)) rfl] at hr
              rw [← hr, show vN (some x) = (x : Int) from rfl, ← nIJ] at kx
              exact kx
            · refine Ex_aload_n d_rm_search_254 rfl ?_
              refine Ex_aload_n d_rm_search_255 rfl ?_
              refine Ex_getR (v := .ref 72) d_rm_search_256 pf_rm_112 rfl (t_38 hs) (r_38_47 hs) ?_
              refine Ex_iload d_rm_search_259 rfl ?_
              refine Ex_ialoadN (a := zd Z) (y := (nI (zp Z (zd Z)))) d_rm_search_261 (t_72 hs) rfl (by omega) (by decide) ((hZ.2.1 _ (Nat.le_refl _)).1) ?_
              refine Ex_iload d_rm_search_262 rfl ?_
              refine Ex_iconst d_rm_search_264 ic_1 ?_
              refine Ex_iaddN (x) (1) d_rm_search_265 rfl rfl ?_
              refine Ex_pV2 (v := .int (J (vN (nfS K F f (zL Z) (zl Z) (zp Z (zd Z)) (x + 1))))) d_rm_search_266 pk_rm_search_304 (t_38 hs) (rm_nextFitting_s hs hK hO hFO hf hF hL hZ.1.1 hl (k := zp Z (zd Z)) hI.2.2.1.1 (t := x + 1) (by omega)) ?_
              refine Ex_istore [some (.ref 38), some (.int (nI (w))), some (.int (bI (y))), some (.int (nI (a))), some (.int (v4)), some (.int (nI (zd Z))), some (.int (J (vN (nfS K F f (zL Z) (zl Z) (zp Z (zd Z)) (x + 1)))))] d_rm_search_269 (Nat.le_of_ble_eq_true rfl) rfl ?_
              refine Ex_goto 204 d_rm_search_271 rfl ?_
              have hps : (!psB K n y a Z x) = false := by
                rw [Bool.not_eq_false', psB, decide_eq_true_eq]
                unfold bsZ at hc217 hc251
                by_cases hz : zf Z = 0
                · rw [if_pos hz] at hc217; exact absurd hc217 (by omega)
                · rw [if_neg hz] at hc251; rw [show n - (zd Z + 1) = n - zd Z - 1 by omega] at hc251; exact ⟨hc210, by omega, by omega⟩
              rw [hn3 x hps rfl, show t + e - (x + 1) = 8 * K.1 - (x + 1) by omega] at hr
              exact ih (8 * K.1 - (x + 1)) (by omega) (x + 1) (by omega) hr
