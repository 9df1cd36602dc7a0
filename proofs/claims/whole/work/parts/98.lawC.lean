/-! THE LAW: each call. -/
theorem pr_edge {S : mj_S} {t : Nat} {h : mj_H} {K : SK} {P : SP} {G : SG} {R : SR} {F : SF} {Y : OW} (hs : HT h) (hC : CI K P G R F Y h) (hM : MI K P G R F h) (hO : OI K P G R F) (hr : LR t h) {z y e : Int} (b_z : -2147483648 ≤ z ∧ z < 2147483648) (b_y : -2147483648 ≤ y ∧ y < 2147483648) (b_e : -2147483648 ≤ e ∧ e < 2147483648) : PRi S to_edge [.ref 0, .int (J z), .int (J y), .int (J e)] rm_edge [.ref 38, .int (J z), .int (J y), .int (J e)] t h :=
  prU hs hC hM hO hr (to_edge_s hs hC.1 hO.1.1 b_z b_y b_e) (rm_edge_s hs hM.1 hO.1.1 b_z b_y b_e)
theorem pr_then {S : mj_S} {t : Nat} {h : mj_H} {K : SK} {P : SP} {G : SG} {R : SR} {F : SF} {Y : OW} (hs : HT h) (hC : CI K P G R F Y h) (hM : MI K P G R F h) (hO : OI K P G R F) (hr : LR t h) {z y : Int} (b_z : -2147483648 ≤ z ∧ z < 2147483648) (b_y : -2147483648 ≤ y ∧ y < 2147483648) : PRi S to_then [.ref 0, .int (J z), .int (J y)] rm_then [.ref 38, .int (J z), .int (J y)] t h :=
  prU hs hC hM hO hr (to_then_s b_z b_y) (rm_then_s b_z b_y)
theorem pr_at {S : mj_S} {t : Nat} {h : mj_H} {K : SK} {P : SP} {G : SG} {R : SR} {F : SF} {Y : OW} (hs : HT h) (hC : CI K P G R F Y h) (hM : MI K P G R F h) (hO : OI K P G R F) (hr : LR t h) {p i j w : Int} (b_p : -2147483648 ≤ p ∧ p < 2147483648) (b_i : -2147483648 ≤ i ∧ i < 2147483648) (b_j : -2147483648 ≤ j ∧ j < 2147483648) (b_w : -2147483648 ≤ w ∧ w < 2147483648) : PRi S to_at [.ref 0, .int (J p), .int (J i), .int (J j), .int (J w)] rm_at [.ref 38, .int (J p), .int (J i), .int (J j), .int (J w)] t h :=
  prU hs hC hM hO hr (to_at_s hs hC.1 hO.1.1 hC.2.1 hO.2.1 b_p b_i b_j b_w) (rm_at_s hs hM.1 hO.1.1 hM.2.1 hO.2.1 b_p b_i b_j b_w)
theorem pr_row {S : mj_S} {t : Nat} {h : mj_H} {K : SK} {P : SP} {G : SG} {R : SR} {F : SF} {Y : OW} (hs : HT h) (hC : CI K P G R F Y h) (hM : MI K P G R F h) (hO : OI K P G R F) (hr : LR t h) {p i w : Int} (b_p : -2147483648 ≤ p ∧ p < 2147483648) (b_i : -2147483648 ≤ i ∧ i < 2147483648) (b_w : -2147483648 ≤ w ∧ w < 2147483648) : PRi S to_row [.ref 0, .int (J p), .int (J i), .int (J w)] rm_row [.ref 38, .int (J p), .int (J i), .int (J w)] t h :=
  prU hs hC hM hO hr (to_row_s hs hC.2.1 hO.2.1 b_p b_i b_w) (rm_row_s hs hM.2.1 hO.2.1 b_p b_i b_w)
theorem pr_shares {S : mj_S} {t : Nat} {h : mj_H} {K : SK} {P : SP} {G : SG} {R : SR} {F : SF} {Y : OW} (hs : HT h) (hC : CI K P G R F Y h) (hM : MI K P G R F h) (hO : OI K P G R F) (hr : LR t h) {p i q k : Int} (b_p : -2147483648 ≤ p ∧ p < 2147483648) (b_i : -2147483648 ≤ i ∧ i < 2147483648) (b_q : -2147483648 ≤ q ∧ q < 2147483648) (b_k : -2147483648 ≤ k ∧ k < 2147483648) : PRi S to_shares [.ref 0, .int (J p), .int (J i), .int (J q), .int (J k)] rm_shares [.ref 38, .int (J p), .int (J i), .int (J q), .int (J k)] t h :=
  prU hs hC hM hO hr (to_shares_s hs hC.2.1 hO.2.1 b_p b_i b_q b_k) (rm_shares_s hs hM.2.1 hO.2.1 b_p b_i b_q b_k)
theorem pr_count {S : mj_S} {t : Nat} {h : mj_H} {K : SK} {P : SP} {G : SG} {R : SR} {F : SF} {Y : OW} (hs : HT h) (hC : CI K P G R F Y h) (hM : MI K P G R F h) (hO : OI K P G R F) (hr : LR t h) {p k : Int} (b_p : -2147483648 ≤ p ∧ p < 2147483648) (b_k : -2147483648 ≤ k ∧ k < 2147483648) : PRi S to_count [.ref 0, .int (J p), .int (J k)] rm_count [.ref 38, .int (J p), .int (J k)] t h :=
  prU hs hC hM hO hr (to_count_s hs hC.1 hO.1.1 hC.2.1 hO.2.1 b_p b_k) (rm_count_s hs hM.1 hO.1.1 hM.2.1 hO.2.1 b_p b_k)
theorem pr_fits {S : mj_S} {t : Nat} {h : mj_H} {K : SK} {P : SP} {G : SG} {R : SR} {F : SF} {Y : OW} (hs : HT h) (hC : CI K P G R F Y h) (hM : MI K P G R F h) (hO : OI K P G R F) (hr : LR t h) {p : Int} (b_p : -2147483648 ≤ p ∧ p < 2147483648) : PRi S to_fits [.ref 0, .int (J p)] rm_fits [.ref 38, .int (J p)] t h :=
  prU hs hC hM hO hr (to_fits_s hs hC.1 hO.1.1 hC.2.1 hO.2.1 b_p) (rm_fits_s hs hM.1 hO.1.1 hM.2.1 hO.2.1 b_p)
theorem pr_shown {S : mj_S} {t : Nat} {h : mj_H} {K : SK} {P : SP} {G : SG} {R : SR} {F : SF} {Y : OW} (hs : HT h) (hC : CI K P G R F Y h) (hM : MI K P G R F h) (hO : OI K P G R F) (hr : LR t h) {f i j : Int} (b_f : -2147483648 ≤ f ∧ f < 2147483648) (b_i : -2147483648 ≤ i ∧ i < 2147483648) (b_j : -2147483648 ≤ j ∧ j < 2147483648) : PRi S to_shown [.ref 0, .int (J f), .int (J i), .int (J j)] rm_shown [.ref 38, .int (J f), .int (J i), .int (J j)] t h :=
  prU hs hC hM hO hr (to_shown_s hs hC.1 hO.1.1 hC.2.2.2.2 hO.2.2.2.2.1 b_f b_i b_j) (rm_shown_s hs hO.1.1 hM.2.2.2.2 hO.2.2.2.2.1 b_f b_i b_j)
theorem pr_about {S : mj_S} {t : Nat} {h : mj_H} {K : SK} {P : SP} {G : SG} {R : SR} {F : SF} {Y : OW} (hs : HT h) (hC : CI K P G R F Y h) (hM : MI K P G R F h) (hO : OI K P G R F) (hr : LR t h) {w : Int} (b_w : -2147483648 ≤ w ∧ w < 2147483648) : PRi S to_about [.ref 0, .int (J w)] rm_about [.ref 38, .int (J w)] t h :=
  prU hs hC hM hO hr (to_about_s hs hC.1 hC.2.1 hC.2.2.2.1 hC.2.2.2.2 hC.2.2.1 b_w) (rm_about_s hs hM.1 hM.2.1 hM.2.2.2.1 hM.2.2.2.2 hM.2.2.1 b_w)
theorem pr_named {S : mj_S} {t : Nat} {h : mj_H} {K : SK} {P : SP} {G : SG} {R : SR} {F : SF} {Y : OW} (hs : HT h) (hC : CI K P G R F Y h) (hM : MI K P G R F h) (hO : OI K P G R F) (hr : LR t h) (name : Int64) : PRi S to_named [.ref 0, .long name] rm_named [.ref 38, .long name] t h :=
  prU hs hC hM hO hr (to_named_s hs hC.1 hO.1.1 name) (rm_named_s hs hM.1 hO.1.1 hO.1.2 name)
theorem pr_kept {S : mj_S} {t : Nat} {h : mj_H} {K : SK} {P : SP} {G : SG} {R : SR} {F : SF} {Y : OW} (hs : HT h) (hC : CI K P G R F Y h) (hM : MI K P G R F h) (hO : OI K P G R F) (hr : LR t h) {p : Int} (b_p : -2147483648 ≤ p ∧ p < 2147483648) : PRi S to_kept [.ref 0, .int (J p)] rm_kept [.ref 38, .int (J p)] t h :=
  prC hs hC hM hO hr (to_kept_s hs hC.1 hO.1.1 hC.2.1 hO.2.1 b_p) (fun h1 hs1 hM1 => rm_kept_s hs1 hM1.1 hO.1.1 hM1.2.1 hO.2.1 b_p)
theorem pr_congruent {S : mj_S} {t : Nat} {h : mj_H} {K : SK} {P : SP} {G : SG} {R : SR} {F : SF} {Y : OW} (hs : HT h) (hC : CI K P G R F Y h) (hM : MI K P G R F h) (hO : OI K P G R F) (hr : LR t h) {p q : Int} (b_p : -2147483648 ≤ p ∧ p < 2147483648) (b_q : -2147483648 ≤ q ∧ q < 2147483648) : PRi S to_congruent [.ref 0, .int (J p), .int (J q)] rm_congruent [.ref 38, .int (J p), .int (J q)] t h :=
  prC hs hC hM hO hr (to_congruent_s hs hC.1 hO.1.1 hC.2.1 hO.2.1 b_p b_q) (fun h1 hs1 hM1 => rm_congruent_s hs1 hM1.1 hO.1.1 hM1.2.1 hO.2.1 b_p b_q)
theorem pr_find {S : mj_S} {t : Nat} {h : mj_H} {K : SK} {P : SP} {G : SG} {R : SR} {F : SF} {Y : OW} (hs : HT h) (hC : CI K P G R F Y h) (hM : MI K P G R F h) (hO : OI K P G R F) (hr : LR t h) {p q k : Int} (b_p : -2147483648 ≤ p ∧ p < 2147483648) (b_q : -2147483648 ≤ q ∧ q < 2147483648) (b_k : -2147483648 ≤ k ∧ k < 2147483648) : PRi S to_find [.ref 0, .int (J p), .int (J q), .int (J k)] rm_find [.ref 38, .int (J p), .int (J q), .int (J k)] t h :=
  prC hs hC hM hO hr (to_find_s hs hC.1 hO.1.1 hC.2.1 hO.2.1 b_p b_q b_k) (fun h1 hs1 hM1 => rm_find_s hs1 hM1.1 hO.1.1 hM1.2.1 hO.2.1 b_p b_q b_k)
theorem pr_period {S : mj_S} {t : Nat} {h : mj_H} {K : SK} {P : SP} {G : SG} {R : SR} {F : SF} {Y : OW} (hs : HT h) (hC : CI K P G R F Y h) (hM : MI K P G R F h) (hO : OI K P G R F) (hr : LR t h) {p w : Int} (b_p : -2147483648 ≤ p ∧ p < 2147483648) (b_w : -2147483648 ≤ w ∧ w < 2147483648) : PRi S to_period [.ref 0, .int (J p), .int (J w)] rm_period [.ref 38, .int (J p), .int (J w)] t h := by
  refine Cl_mono (to_period_s hs hC.1 hO.1.1 hC.2.1 hO.2.1 b_p b_w) ?_
  rintro r h1 ⟨rfl, v, rfl, hv⟩
  refine ⟨J v, rfl, hs, Cl_mono (rm_period_s hs hM.1 hO.1.1 hM.2.1 hO.2.1 b_p b_w) ?_⟩
  rintro r h3 ⟨rfl, v2, rfl, hv2⟩
  rw [perS_u hv2 hv]
  exact ⟨rfl, ⟨K, P, G, R, F, Y, hs, hC, hM, hO⟩, LR_up hr⟩
def PRl (S : mj_S) (mc : mj_Y) (a1 : List Value) (mm : mj_Y) (a2 : List Value) (t : Nat) (h : mj_H) : Prop := Cl S mc a1 h (fun r h1 => ∃ x : Int64, r = some (.long x) ∧ HT h1 ∧ Cl S mm a2 h1 (fun r2 h2 => r2 = some (.long x) ∧ LX (t + 1) h2))
theorem pr_foretold {S : mj_S} {t : Nat} {h : mj_H} {K : SK} {P : SP} {G : SG} {R : SR} {F : SF} {Y : OW} (hs : HT h) (hC : CI K P G R F Y h) (hM : MI K P G R F h) (hO : OI K P G R F) (hr : LR t h) {r a w b : Int} (b_r : -2147483648 ≤ r ∧ r < 2147483648) (b_a : -2147483648 ≤ a ∧ a < 2147483648) (b_w : -2147483648 ≤ w ∧ w < 2147483648) (b_b : -2147483648 ≤ b ∧ b < 2147483648) : PRl S to_foretold [.ref 0, .int (J r), .int (J a), .int (J w), .int (J b)] rm_foretold [.ref 38, .int (J r), .int (J a), .int (J w), .int (J b)] t h := by
  refine Cl_mono (to_foretold_s hs hC.1 hO.1.1 hC.2.2.2.1 hO.2.2.2.1 b_r b_a b_w b_b) ?_
  rintro r h1 ⟨rfl, fr⟩
  have hs1 := fr.ht hs (Wft_st Y)
  have hM1 := MI_c hs fr Wft_l hM
  refine ⟨_, rfl, hs1, Cl_mono (rm_foretold_s hs1 hM1.1 hO.1.1 hM1.2.2.2.1 hO.2.2.2.1 b_r b_a b_w b_b) ?_⟩
  rintro r h3 ⟨rfl, fr2⟩
  exact ⟨rfl, ⟨K, P, G, R, F, Y, fr2.ht hs1 W62_st, CI_m hs1 fr2 W62_m (CI_ut hs hC fr), MI_ut hs1 hM1 fr2, hO⟩, LR_gr hr (Gr.tr (Gr.of fr (by unfold Wft; omega)) (Gr_m fr2 W62_m)) (by decide) (by decide)⟩
theorem pr_kind {S : mj_S} {t : Nat} {h : mj_H} {K : SK} {P : SP} {G : SG} {R : SR} {F : SF} {Y : OW} (hs : HT h) (hC : CI K P G R F Y h) (hM : MI K P G R F h) (hO : OI K P G R F) (hr : LR t h) {e t_ c : Int} (b_e : -2147483648 ≤ e ∧ e < 2147483648) (b_t_ : -2147483648 ≤ t_ ∧ t_ < 2147483648) (b_c : -2147483648 ≤ c ∧ c < 2147483648) (b : Bool) (name : Int64) : PRi S to_kind [.ref 0, .int (J e), .int (J t_), .int (bI b), .int (J c), .long name] rm_kind [.ref 38, .int (J e), .int (J t_), .int (bI b), .int (J c), .long name] t h := by
  refine Cl_mono (to_kind_s hs hC.1 hO.1.1 b_e b_t_ b_c b name) ?_
  rintro r h1 ⟨rfl, hN, fr⟩
  have hs1 := fr.ht hs WKC_st
  have hM1 := MI_c hs fr WKC_l hM
  refine ⟨_, rfl, hs1, Cl_mono (rm_kind_s hs1 hM1.1 hO.1.1 hO.1.2 b_e b_t_ b_c b name) ?_⟩
  rintro r h3 ⟨rfl, hN2, fr2⟩
  have hk := kindK_ok (e := e) (t := t_) (c := c) (b := b) (its := plS name 8 0) hO.1.1 hO.1.2
  exact ⟨rfl, ⟨_, P, G, R, F, Y, fr2.ht hs1 WKM_st, CI_m hs1 fr2 WKM_m (CI_uK hs hC fr hN), MI_uK hs1 hM1 fr2 hN2, OI_mono kindK_le hk.1 hk.2 hO⟩, LR_gr hr (Gr.tr (Gr.of fr (by unfold WKC; omega)) (Gr_m fr2 WKM_m)) (by decide) (by decide)⟩
theorem pr_undo {S : mj_S} {t : Nat} {h : mj_H} {K : SK} {P : SP} {G : SG} {R : SR} {F : SF} {Y : OW} (hs : HT h) (hC : CI K P G R F Y h) (hM : MI K P G R F h) (hO : OI K P G R F) (hr : LR t h)  : PRi S to_undo [.ref 0] rm_undo [.ref 38] t h := by
  refine Cl_mono (to_undo_z hs hC.2.1 hO.2.1) ?_
  rintro r h1 ⟨rfl, hN, fr, hz⟩
  have hs1 := fr.ht hs (WPC_st Y)
  have hM1 := MI_c hs fr WPC_l hM
  refine ⟨_, rfl, hs1, Cl_mono (rm_undo_s hs1 hM1.2.1 hO.2.1) ?_⟩
  rintro r h3 ⟨rfl, hN2, fr2⟩
  exact ⟨rfl, ⟨K, _, G, R, F, Y, fr2.ht hs1 WPM_st, CI_m hs1 fr2 WPM_m (CI_uP hs hC fr OwE.rf hN), MI_uP hs1 hM1 fr2 hN2, hO.1, PO_undo hO.2.1, hO.2.2⟩, LR_gr hr (Gr.tr (Gr_sz hz) (Gr_m fr2 WPM_m)) (by decide) (by decide)⟩
theorem pr_pattern {S : mj_S} {t : Nat} {h : mj_H} {K : SK} {P : SP} {G : SG} {R : SR} {F : SF} {Y : OW} (hs : HT h) (hC : CI K P G R F Y h) (hM : MI K P G R F h) (hO : OI K P G R F) (hr : LR t h)  : PRi S to_pattern [.ref 0] rm_pattern [.ref 38] t h :=
  prP hs hC hM hO hr (fun hc => ⟨by decide, by decide⟩) (fun hc => ⟨hO.1, PO_newPat hO.2.1 hc ⟨Nat.zero_le _, fun x hx => by cases hx⟩, hO.2.2⟩) (to_pattern_s hs hC.2.1 hO.2.1 ) (fun h1 hs1 hM1 => rm_pattern_s hs1 hM1.2.1 hO.2.1 )
theorem pr_insert {S : mj_S} {t : Nat} {h : mj_H} {K : SK} {P : SP} {G : SG} {R : SR} {F : SF} {Y : OW} (hs : HT h) (hC : CI K P G R F Y h) (hM : MI K P G R F h) (hO : OI K P G R F) (hr : LR t h) {p i l z : Int} (b_p : -2147483648 ≤ p ∧ p < 2147483648) (b_i : -2147483648 ≤ i ∧ i < 2147483648) (b_l : -2147483648 ≤ l ∧ l < 2147483648) (b_z : -2147483648 ≤ z ∧ z < 2147483648) : PRi S to_insert [.ref 0, .int (J p), .int (J i), .int (J l), .int (J z)] rm_insert [.ref 38, .int (J p), .int (J i), .int (J l), .int (J z)] t h :=
  prP hs hC hM hO hr (fun hc => ⟨by decide, by decide⟩) (fun hc => ⟨hO.1, PO_ins hO.2.1 (by have := hc.1; have := hc.2.1; omega) (by have := hc.2.2.1; have := hc.2.2.2.1; omega) hc.2.2.2.2.1 hc.2.2.2.2.2.2.2.2.2 (by have := hc.2.2.2.2.2.1; have := hc.2.2.2.2.2.2.1; omega) ⟨hc.2.2.2.2.2.2.2.1, hc.2.2.2.2.2.2.2.2.1⟩, hO.2.2⟩) (to_insert_s hs hC.2.1 hO.2.1 b_p b_i b_l b_z) (fun h1 hs1 hM1 => rm_insert_s hs1 hM1.2.1 hO.2.1 b_p b_i b_l b_z)
theorem pr_remove {S : mj_S} {t : Nat} {h : mj_H} {K : SK} {P : SP} {G : SG} {R : SR} {F : SF} {Y : OW} (hs : HT h) (hC : CI K P G R F Y h) (hM : MI K P G R F h) (hO : OI K P G R F) (hr : LR t h) {p i : Int} (b_p : -2147483648 ≤ p ∧ p < 2147483648) (b_i : -2147483648 ≤ i ∧ i < 2147483648) : PRi S to_remove [.ref 0, .int (J p), .int (J i)] rm_remove [.ref 38, .int (J p), .int (J i)] t h :=
  prP hs hC hM hO hr (fun hc => ⟨by decide, by decide⟩) (fun hc => ⟨hO.1, PO_rem hO.2.1 (by have := hc.1; have := hc.2.1; omega) (by have := hc.2.2.1; have := hc.2.2.2; omega), hO.2.2⟩) (to_remove_s hs hC.2.1 hO.2.1 b_p b_i) (fun h1 hs1 hM1 => rm_remove_s hs1 hM1.2.1 hO.2.1 b_p b_i)
theorem pr_move {S : mj_S} {t : Nat} {h : mj_H} {K : SK} {P : SP} {G : SG} {R : SR} {F : SF} {Y : OW} (hs : HT h) (hC : CI K P G R F Y h) (hM : MI K P G R F h) (hO : OI K P G R F) (hr : LR t h) {p i u : Int} (b_p : -2147483648 ≤ p ∧ p < 2147483648) (b_i : -2147483648 ≤ i ∧ i < 2147483648) (b_u : -2147483648 ≤ u ∧ u < 2147483648) : PRi S to_move [.ref 0, .int (J p), .int (J i), .int (J u)] rm_move [.ref 38, .int (J p), .int (J i), .int (J u)] t h :=
  prP hs hC hM hO hr (fun hc => ⟨by decide, by decide⟩) (fun hc => ⟨hO.1, PO_mov hO.2.1 (by have := hc.1.1; have := hc.1.2.1; omega) (by have := hc.1.2.2.1; have := hc.1.2.2.2; omega) (by have := hc.2.1; have := hc.2.2; omega), hO.2.2⟩) (to_move_s hs hC.2.1 hO.2.1 b_p b_i b_u) (fun h1 hs1 hM1 => rm_move_s hs1 hM1.2.1 hO.2.1 b_p b_i b_u)
theorem okPut_i {P : SP} {p i j : Int} (h : (cAt P p.toNat i j).isSome = true) : i.toNat < (pPat P p.toNat).length := by
  rcases hq : cAt P p.toNat i j with _ | c
  · rw [hq] at h; cases h
  · have := cAt_some hq
    omega
theorem shC_ok {n : Nat} {P : SP} (hQ : PO n P) {p i j : Int} {s : Int32} (hp : p.toNat < pNp P) : okT n (shC P p i j s) := by
  have z := cAt_ok hQ hp (i := i) (j := j)
  unfold shC
  match cAt P p.toNat i j, z with
  | none, _ => trivial
  | some none, _ => trivial
  | some (some (k, m, s0)), z => exact ⟨z.1, z.2.1, lo16_lt _⟩
theorem pr_put {S : mj_S} {t : Nat} {h : mj_H} {K : SK} {P : SP} {G : SG} {R : SR} {F : SF} {Y : OW} (hs : HT h) (hC : CI K P G R F Y h) (hM : MI K P G R F h) (hO : OI K P G R F) (hr : LR t h) {p i j k m : Int} (b_p : -2147483648 ≤ p ∧ p < 2147483648) (b_i : -2147483648 ≤ i ∧ i < 2147483648) (b_j : -2147483648 ≤ j ∧ j < 2147483648) (b_k : -2147483648 ≤ k ∧ k < 2147483648) (b_m : -2147483648 ≤ m ∧ m < 2147483648) : PRi S to_put [.ref 0, .int (J p), .int (J i), .int (J j), .int (J k), .int (J m)] rm_put [.ref 38, .int (J p), .int (J i), .int (J j), .int (J k), .int (J m)] t h :=
  prP hs hC hM hO hr (fun hc => ⟨by decide, by decide⟩) (fun hc => ⟨hO.1, PO_set hO.2.1 (by have := hc.1; have := hc.2.1; omega) (okPut_i hc.2.2.1) hc.2.2.2.2 (putC_ok hO.1.1 hc.2.2.2.1), hO.2.2⟩) (to_put_s hs hC.1 hO.1.1 hC.2.1 hO.2.1 b_p b_i b_j b_k b_m) (fun h1 hs1 hM1 => rm_put_s hs1 hM1.1 hO.1.1 hM1.2.1 hO.2.1 b_p b_i b_j b_k b_m)
theorem pr_shade {S : mj_S} {t : Nat} {h : mj_H} {K : SK} {P : SP} {G : SG} {R : SR} {F : SF} {Y : OW} (hs : HT h) (hC : CI K P G R F Y h) (hM : MI K P G R F h) (hO : OI K P G R F) (hr : LR t h) {p i j : Int} (b_p : -2147483648 ≤ p ∧ p < 2147483648) (b_i : -2147483648 ≤ i ∧ i < 2147483648) (b_j : -2147483648 ≤ j ∧ j < 2147483648) {s : Int32} : PRi S to_shade [.ref 0, .int (J p), .int (J i), .int (J j), .int s] rm_shade [.ref 38, .int (J p), .int (J i), .int (J j), .int s] t h :=
  prP hs hC hM hO hr (fun hc => ⟨by decide, by decide⟩) (fun hc => ⟨hO.1, PO_set hO.2.1 (by have := hc.1; have := hc.2.1; omega) (okPut_i (by obtain ⟨q, e⟩ := hc.2.2.1; rw [e]; rfl)) hc.2.2.2 (shC_ok hO.2.1 (by have := hc.1; have := hc.2.1; omega)), hO.2.2⟩) (to_shade_s hs hC.1 hO.1.1 hC.2.1 hO.2.1 b_p b_i b_j) (fun h1 hs1 hM1 => rm_shade_s hs1 hM1.1 hO.1.1 hM1.2.1 hO.2.1 b_p b_i b_j)
theorem pr_copy {S : mj_S} {t : Nat} {h : mj_H} {K : SK} {P : SP} {G : SG} {R : SR} {F : SF} {Y : OW} (hs : HT h) (hC : CI K P G R F Y h) (hM : MI K P G R F h) (hO : OI K P G R F) (hr : LR t h) {p : Int} (b_p : -2147483648 ≤ p ∧ p < 2147483648) : PRi S to_copy [.ref 0, .int (J p)] rm_copy [.ref 38, .int (J p)] t h :=
  prP hs hC hM hO hr (fun hc => ⟨by decide, by decide⟩) (fun hc => ⟨hO.1, PO_newPat hO.2.1 hc.2.2 (hO.2.1.2.2.2.1 _ (by have := hc.1; have := hc.2.1; omega)), hO.2.2⟩) (to_copy_s hs hC.2.1 hO.2.1 b_p) (fun h1 hs1 hM1 => rm_copy_s hs1 hM1.2.1 hO.2.1 b_p)
theorem pr_region {S : mj_S} {t : Nat} {h : mj_H} {K : SK} {P : SP} {G : SG} {R : SR} {F : SF} {Y : OW} (hs : HT h) (hC : CI K P G R F Y h) (hM : MI K P G R F h) (hO : OI K P G R F) (hr : LR t h) {p i j r c : Int} (b_p : -2147483648 ≤ p ∧ p < 2147483648) (b_i : -2147483648 ≤ i ∧ i < 2147483648) (b_j : -2147483648 ≤ j ∧ j < 2147483648) (b_r : -2147483648 ≤ r ∧ r < 2147483648) (b_c : -2147483648 ≤ c ∧ c < 2147483648) : PRi S to_region [.ref 0, .int (J p), .int (J i), .int (J j), .int (J r), .int (J c)] rm_region [.ref 38, .int (J p), .int (J i), .int (J j), .int (J r), .int (J c)] t h :=
  prG hs hC hM hO hr (fun hc => ⟨hO.1, hO.2.1, rgG_ok hO.2.1 (by have := hc.1; have := hc.2.1; omega) (by have := hc.2.2; omega), hO.2.2.2⟩) (to_region_s hs hC.2.1 hO.1.1.1 hO.2.1 b_p b_i b_j b_r b_c) (fun h1 hs1 hM1 => rm_region_s hs1 hM1.2.1 hO.1.1.1 hO.2.1 b_p b_i b_j b_r b_c)
theorem pr_turn {S : mj_S} {t : Nat} {h : mj_H} {K : SK} {P : SP} {G : SG} {R : SR} {F : SF} {Y : OW} (hs : HT h) (hC : CI K P G R F Y h) (hM : MI K P G R F h) (hO : OI K P G R F) (hr : LR t h) {z : Int} (b_z : -2147483648 ≤ z ∧ z < 2147483648) : PRi S to_turn [.ref 0, .int (J z)] rm_turn [.ref 38, .int (J z)] t h :=
  prG hs hC hM hO hr (fun hc => ⟨hO.1, hO.2.1, tnG_ok hO.1.1 hO.2.2.1, hO.2.2.2⟩) (to_turn_s hs hC.1 hO.1.1 hC.2.2.1 hO.2.2.1 b_z) (fun h1 hs1 hM1 => rm_turn_s hs1 hM1.1 hO.1.1 hM1.2.2.1 hO.2.2.1 b_z)
theorem rwN_lq {G : SG} {P : SP} {p : Nat} {i j : Int} : ∀ q, rwN G P p i j q ≤ q
  | 0 => Nat.le_refl _
  | q + 1 => by
    show rwN G P p i j q + (if 0 < cmN G P p i j q G.2.1 then 1 else 0) ≤ q + 1
    have := rwN_lq (G := G) (P := P) (p := p) (i := i) (j := j) q
    split <;> omega
theorem rwN_20 {n : Nat} {G : SG} (hG : GO n G) {P : SP} {p : Nat} {i j : Int} : rwN G P p i j G.1 ≤ 20 := by
  have := rwN_lq (G := G) (P := P) (p := p) (i := i) (j := j) G.1
  rcases hG.1 with z | z <;> omega
theorem pr_paste {S : mj_S} {t : Nat} {h : mj_H} {K : SK} {P : SP} {G : SG} {R : SR} {F : SF} {Y : OW} (hs : HT h) (hC : CI K P G R F Y h) (hM : MI K P G R F h) (hO : OI K P G R F) (hr : LR t h) {p i j : Int} (b_p : -2147483648 ≤ p ∧ p < 2147483648) (b_i : -2147483648 ≤ i ∧ i < 2147483648) (b_j : -2147483648 ≤ j ∧ j < 2147483648) : PRi S to_paste [.ref 0, .int (J p), .int (J i), .int (J j)] rm_paste [.ref 38, .int (J p), .int (J i), .int (J j)] t h :=
  prP hs hC hM hO hr (fun hc => (by have := rwN_20 (P := P) (p := p.toNat) (i := i) (j := j) hO.2.2.1; omega)) (fun hc => ⟨hO.1, psP_ok hO.2.2.1 hO.2.1 hc, hO.2.2⟩) (to_paste_s hs hC.2.1 hO.1.1.1 hO.2.1 hC.2.2.1 hO.2.2.1 b_p b_i b_j) (fun h1 hs1 hM1 => rm_paste_s hs1 hM1.2.1 hO.2.1 hM1.2.2.1 hO.2.2.1 b_p b_i b_j)
theorem pr_rule {S : mj_S} {t : Nat} {h : mj_H} {K : SK} {P : SP} {G : SG} {R : SR} {F : SF} {Y : OW} (hs : HT h) (hC : CI K P G R F Y h) (hM : MI K P G R F h) (hO : OI K P G R F) (hr : LR t h) {r c : Int} (b_r : -2147483648 ≤ r ∧ r < 2147483648) (b_c : -2147483648 ≤ c ∧ c < 2147483648) : PRi S to_rule [.ref 0, .int (J r), .int (J c)] rm_rule [.ref 38, .int (J r), .int (J c)] t h :=
  prR hs hC hM hO hr (fun hc => ⟨by decide, by decide⟩) (fun hc => ⟨hO.1, hO.2.1, hO.2.2.1, addR_ok hO.2.2.2.1 (by have := hc; omega), hO.2.2.2.2⟩) (to_rule_s hs hC.2.2.2.1 hO.2.2.2.1 b_r b_c) (fun h1 hs1 hM1 => rm_rule_s hs1 hM1.2.2.2.1 hO.2.2.2.1 b_r b_c)
theorem pr_becomes {S : mj_S} {t : Nat} {h : mj_H} {K : SK} {P : SP} {G : SG} {R : SR} {F : SF} {Y : OW} (hs : HT h) (hC : CI K P G R F Y h) (hM : MI K P G R F h) (hO : OI K P G R F) (hr : LR t h) {r k i j o m : Int} (b_r : -2147483648 ≤ r ∧ r < 2147483648) (b_k : -2147483648 ≤ k ∧ k < 2147483648) (b_i : -2147483648 ≤ i ∧ i < 2147483648) (b_j : -2147483648 ≤ j ∧ j < 2147483648) (b_o : -2147483648 ≤ o ∧ o < 2147483648) (b_m : -2147483648 ≤ m ∧ m < 2147483648) : PRi S to_becomes [.ref 0, .int (J r), .int (J k), .int (J i), .int (J j), .int (J o), .int (J m)] rm_becomes [.ref 38, .int (J r), .int (J k), .int (J i), .int (J j), .int (J o), .int (J m)] t h :=
  prR0 hs hC hM hO hr (fun hc => ⟨hO.1, hO.2.1, hO.2.2.1, setR_ok hO.2.2.2.1 (putC_ok hO.1.1 hc.2.2.2.2.2.2.2.2), hO.2.2.2.2⟩) (to_becomes_z hs hC.1 hO.1.1 hC.2.2.2.1 hO.2.2.2.1 b_r b_k b_i b_j b_o b_m) (fun h1 hs1 hM1 => rm_becomes_s hs1 hM1.1 hO.1.1 hM1.2.2.2.1 hO.2.2.2.1 b_r b_k b_i b_j b_o b_m)
theorem addF_Z {n : Nat} {F : SF} (hZ : FZ F) {r c : Nat} : FZ (addF F r c) := by
  intro f k hf hi
  by_cases q : f = F.1
  · rw [q]
    obtain ⟨a1, a2, a3, a4, a5⟩ := addF_n (F := F) (r := r) (c := c)
    rw [a3, a4]
    exact ⟨rfl, rfl⟩
  · obtain ⟨a1, a2, a3, a4, a5⟩ := addF_o (F := F) (r := r) (c := c) q
    have hf : f < F.1 + 1 := hf
    have hi : ¬ (k / 8 < fR (addF F r c) f ∧ k % 8 < fC (addF F r c) f) := hi
    rw [a1, a2] at hi
    rw [a3, a4]
    exact hZ f k (by omega) hi
theorem setPl_Z {F : SF} (hZ : FZ F) {f i j : Nat} (hi : i < fR F f) (hj : j < fC F f) (h8 : j < 8) {w : To} : FZ (setPl F f (8 * i + j) w) := by
  intro q k hq hn
  have hn : ¬ (k / 8 < fR F q ∧ k % 8 < fC F q) := hn
  obtain ⟨z1, z2⟩ := hZ q k hq hn
  show va_up (fT F) f (va_up (fT F f) (8 * i + j) w) q k = none ∧ va_up (fL F) f (va_up (fL F f) (8 * i + j) none) q k = none
  rw [up2, up2]
  by_cases e : q = f ∧ k = 8 * i + j
  · exfalso
    obtain ⟨rfl, rfl⟩ := e
    omega
  · rw [if_neg e, if_neg e]
    exact ⟨z1, z2⟩
theorem pr_floor {S : mj_S} {t : Nat} {h : mj_H} {K : SK} {P : SP} {G : SG} {R : SR} {F : SF} {Y : OW} (hs : HT h) (hC : CI K P G R F Y h) (hM : MI K P G R F h) (hO : OI K P G R F) (hr : LR t h) {r c : Int} (b_r : -2147483648 ≤ r ∧ r < 2147483648) (b_c : -2147483648 ≤ c ∧ c < 2147483648) : PRi S to_floor [.ref 0, .int (J r), .int (J c)] rm_floor [.ref 38, .int (J r), .int (J c)] t h :=
  prF hs hC hM hO hr (fun hc => ⟨by decide, by decide⟩) (fun hc => ⟨hO.1, hO.2.1, hO.2.2.1, hO.2.2.2.1, ⟨addF_ok hO.2.2.2.2.1 (by have := hc; omega), addF_Z (n := K.1) hO.2.2.2.2.2⟩⟩) (to_floor_s hs hC.2.2.2.2 hO.2.2.2.2.1 b_r b_c) (fun h1 hs1 hM1 => rm_floor_s hs1 hM1.2.2.2.2 hO.2.2.2.2.1 b_r b_c)
theorem pr_place {S : mj_S} {t : Nat} {h : mj_H} {K : SK} {P : SP} {G : SG} {R : SR} {F : SF} {Y : OW} (hs : HT h) (hC : CI K P G R F Y h) (hM : MI K P G R F h) (hO : OI K P G R F) (hr : LR t h) {f i j k m : Int} (b_f : -2147483648 ≤ f ∧ f < 2147483648) (b_i : -2147483648 ≤ i ∧ i < 2147483648) (b_j : -2147483648 ≤ j ∧ j < 2147483648) (b_k : -2147483648 ≤ k ∧ k < 2147483648) (b_m : -2147483648 ≤ m ∧ m < 2147483648) : PRi S to_place [.ref 0, .int (J f), .int (J i), .int (J j), .int (J k), .int (J m)] rm_place [.ref 38, .int (J f), .int (J i), .int (J j), .int (J k), .int (J m)] t h :=
  prF0 hs hC hM hO hr (fun hc => ⟨hO.1, hO.2.1, hO.2.2.1, hO.2.2.2.1, ⟨setPl_ok hO.2.2.2.2.1 (pcT_ok hO.1.1 hc.2.2.2.2.2.2), setPl_Z hO.2.2.2.2.2 (by have := hc; omega) (by have := hc; omega) (by have := hc; have := (hO.2.2.2.2.1.2.2 f.toNat (by omega)).1; omega)⟩⟩) (to_place_z hs hC.1 hO.1.1 hC.2.2.2.2 hO.2.2.2.2.1 b_f b_i b_j b_k b_m) (fun h1 hs1 hM1 => rm_place_s hs1 hM1.1 hO.1.1 hM1.2.2.2.2 hO.2.2.2.2.1 b_f b_i b_j b_k b_m)
theorem pr_stock {S : mj_S} {t : Nat} {h : mj_H} {K : SK} {P : SP} {G : SG} {R : SR} {F : SF} {Y : OW} (hs : HT h) (hC : CI K P G R F Y h) (hM : MI K P G R F h) (hO : OI K P G R F) (hr : LR t h) {f k n : Int} (b_f : -2147483648 ≤ f ∧ f < 2147483648) (b_k : -2147483648 ≤ k ∧ k < 2147483648) (b_n : -2147483648 ≤ n ∧ n < 2147483648) : PRi S to_stock [.ref 0, .int (J f), .int (J k), .int (J n)] rm_stock [.ref 38, .int (J f), .int (J k), .int (J n)] t h :=
  prF0 hs hC hM hO hr (fun hc => ⟨hO.1, hO.2.1, hO.2.2.1, hO.2.2.2.1, ⟨setSt_ok hO.2.2.2.2.1 (by have := hc; omega) (by have := hc; omega), hO.2.2.2.2.2⟩⟩) (to_stock_z hs hC.1 hO.1.1 hC.2.2.2.2 hO.2.2.2.2.1 b_f b_k b_n) (fun h1 hs1 hM1 => rm_stock_s hs1 hM1.1 hO.1.1 hM1.2.2.2.2 hO.2.2.2.2.1 b_f b_k b_n)
theorem pr_fill {S : mj_S} {t : Nat} {h : mj_H} {K : SK} {P : SP} {G : SG} {R : SR} {F : SF} {Y : OW} (hs : HT h) (hC : CI K P G R F Y h) (hM : MI K P G R F h) (hO : OI K P G R F) (hr : LR t h) {z : Int} (b_z : -2147483648 ≤ z ∧ z < 2147483648) : PRi S to_fill [.ref 0, .int (J z)] rm_fill [.ref 38, .int (J z)] t h :=
  prS hs hC hM hO hr (fun hc => ⟨hO.1, hO.2.1, hO.2.2.1, hO.2.2.2.1, (fun (q : ZS × Bool) (hq : zR K F z.toNat q.1) => (show FO K.1 (setO F z.toNat q) ∧ FZ (setO F z.toNat q) from ⟨setF_ok hO.2.2.2.2.1 hq.2.2.2.1 hq.2.1, setF_Z hO.2.2.2.2.2 hq.2.2.2.2⟩)) _ (oc_R hO.1.1 hO.2.2.2.2.1)⟩) (to_fill_s hs hC.1 hO.1.1 hC.2.2.2.2 hO.2.2.2.2.1 hO.2.2.2.2.2 b_z) (fun h1 hs1 hM1 => rm_fill_s hs1 hM1.1 hO.1.1 hM1.2.2.2.2 hO.2.2.2.2.1 hO.2.2.2.2.2 b_z)
theorem pr_fills {S : mj_S} {t : Nat} {h : mj_H} {K : SK} {P : SP} {G : SG} {R : SR} {F : SF} {Y : OW} (hs : HT h) (hC : CI K P G R F Y h) (hM : MI K P G R F h) (hO : OI K P G R F) (hr : LR t h) {z m : Int} (b_z : -2147483648 ≤ z ∧ z < 2147483648) (b_m : -2147483648 ≤ m ∧ m < 2147483648) : PRi S to_fills [.ref 0, .int (J z), .int (J m)] rm_fills [.ref 38, .int (J z), .int (J m)] t h :=
  prS hs hC hM hO hr (fun hc => ⟨hO.1, hO.2.1, hO.2.2.1, hO.2.2.2.1, (fun (q : ZS × Bool) (hq : zR K F z.toNat q.1) => (show FO K.1 (setO F z.toNat q) ∧ FZ (setO F z.toNat q) from ⟨setF_ok hO.2.2.2.2.1 hq.2.2.2.1 hq.2.1, setF_Z hO.2.2.2.2.2 hq.2.2.2.2⟩)) _ (oc_R hO.1.1 hO.2.2.2.2.1)⟩) (to_fills_s hs hC.1 hO.1.1 hC.2.2.2.2 hO.2.2.2.2.1 hO.2.2.2.2.2 b_z b_m) (fun h1 hs1 hM1 => rm_fills_s hs1 hM1.1 hO.1.1 hM1.2.2.2.2 hO.2.2.2.2.1 hO.2.2.2.2.2 b_z b_m)
theorem pr_cheapest {S : mj_S} {t : Nat} {h : mj_H} {K : SK} {P : SP} {G : SG} {R : SR} {F : SF} {Y : OW} (hs : HT h) (hC : CI K P G R F Y h) (hM : MI K P G R F h) (hO : OI K P G R F) (hr : LR t h) {z : Int} (b_z : -2147483648 ≤ z ∧ z < 2147483648) : PRi S to_cheapest [.ref 0, .int (J z)] rm_cheapest [.ref 38, .int (J z)] t h :=
  prS hs hC hM hO hr (fun hc => ⟨hO.1, hO.2.1, hO.2.2.1, hO.2.2.2.1, (fun (q : ZS × Bool) (hq : zR K F z.toNat q.1) => (show FO K.1 (setO F z.toNat q) ∧ FZ (setO F z.toNat q) from ⟨setF_ok hO.2.2.2.2.1 hq.2.2.2.1 hq.2.1, setF_Z hO.2.2.2.2.2 hq.2.2.2.2⟩)) _ (oc_R hO.1.1 hO.2.2.2.2.1)⟩) (to_cheapest_s hs hC.1 hO.1.1 hC.2.2.2.2 hO.2.2.2.2.1 hO.2.2.2.2.2 b_z) (fun h1 hs1 hM1 => rm_cheapest_s hs1 hM1.1 hO.1.1 hM1.2.2.2.2 hO.2.2.2.2.1 hO.2.2.2.2.2 b_z)
theorem foS_ok (K : SK) (F : SF) (f : Nat) : okLy K.1 (shL F f (foS K F f).1) := by
  have z := (fr_R (K := K) (F := F) (f := f) 65 (fun _ => none) (fS F f) 0 ⟨fun _ => trivial, fun _ => Nat.le_refl _, fun _ _ => rfl⟩).1
  intro k
  unfold shL
  split
  · exact z k
  · trivial
theorem pr_forced {S : mj_S} {t : Nat} {h : mj_H} {K : SK} {P : SP} {G : SG} {R : SR} {F : SF} {Y : OW} (hs : HT h) (hC : CI K P G R F Y h) (hM : MI K P G R F h) (hO : OI K P G R F) (hr : LR t h) {z : Int} (b_z : -2147483648 ≤ z ∧ z < 2147483648) : PRi S to_forced [.ref 0, .int (J z)] rm_forced [.ref 38, .int (J z)] t h :=
  prS hs hC hM hO hr (fun hc => ⟨hO.1, hO.2.1, hO.2.2.1, hO.2.2.2.1, ⟨setF_ok hO.2.2.2.2.1 (foS_ok K F z.toNat) hO.2.2.2.2.1.2.1, setF_Z hO.2.2.2.2.2 (fun k hk => if_neg hk)⟩⟩) (to_forced_s hs hC.1 hO.1.1 hC.2.2.2.2 hO.2.2.2.2.1 b_z) (fun h1 hs1 hM1 => rm_forced_s hs1 hM1.1 hO.1.1 hM1.2.2.2.2 hO.2.2.2.2.1 hO.2.2.2.2.2 b_z)
theorem pr_grow {S : mj_S} {t : Nat} {h : mj_H} {K : SK} {P : SP} {G : SG} {R : SR} {F : SF} {Y : OW} (hs : HT h) (hC : CI K P G R F Y h) (hM : MI K P G R F h) (hO : OI K P G R F) (hr : LR t h) {p r w : Int} (b_p : -2147483648 ≤ p ∧ p < 2147483648) (b_r : -2147483648 ≤ r ∧ r < 2147483648) (b_w : -2147483648 ≤ w ∧ w < 2147483648) : PRi S to_grow [.ref 0, .int (J p), .int (J r), .int (J w)] rm_grow [.ref 38, .int (J p), .int (J r), .int (J w)] t h := by
  refine Cl_mono (to_grow_z hs hC.1 hO.1.1 hC.2.2.2.1 hO.2.2.2.1 hC.2.1 hO.2.1 b_p b_r b_w) ?_
  rintro r0 h1 (⟨hn, rfl, rfl⟩ | ⟨hc, rfl, ⟨⟨Y', hy, hN⟩, hg⟩, fr⟩)
  · refine ⟨-1, rfl, hs, Cl_mono (rm_grow_z hs hM.1 hO.1.1 hM.2.2.2.1 hO.2.2.2.1 hM.2.1 hO.2.1 b_p b_r b_w) ?_⟩
    rintro r1 h3 (⟨_, rfl, fr2⟩ | ⟨hc, _⟩)
    · have hw : ∀ a k, Wgw a k → WMo a k := fun a k z => WgM_m a k (Or.inr z)
      exact ⟨rfl, ⟨K, P, G, R, F, Y, fr2.ht hs Wgw_st, CI_m hs fr2 hw hC, MI_ugn hs hM fr2, hO⟩, LR_gr hr (Gr_m fr2 hw) (by decide) (by decide)⟩
    · exact absurd hc hn
  · have hs1 := fr.ht hs (WPC_st Y)
    have hM1 := MI_c hs fr WPC_l hM
    have hC1 := CI_uP hs hC fr hy hN
    refine ⟨_, rfl, hs1, Cl_mono (rm_grow_z hs1 hM1.1 hO.1.1 hM1.2.2.2.1 hO.2.2.2.1 hM1.2.1 hO.2.1 b_p b_r b_w) ?_⟩
    rintro r1 h3 (⟨hn, _⟩ | ⟨_, rfl, hP2, fr2⟩)
    · exact absurd hc hn
    · have hLO : LO K.1 (lvG K R P p.toNat r.toNat w.toNat) := lvN_ok hO.1.1 hO.2.2.2.1 (by have := hc; omega) (lv0_ok hO.2.1 (hO.2.1.2.2.2.1 _ (by have := hc; omega))) _ hc.2.2.2.2.2.2.2.1
      have h60 := hLO.1
      exact ⟨rfl, ⟨K, _, G, R, F, Y', fr2.ht hs1 WgM_st, CI_m hs1 fr2 WgM_m hC1, MI_ug hs1 hM1 fr2 hP2, hO.1, grP_ok hO.2.1 hLO hc.2.2.2.2.2.2.1 (by have := hc.2.2.2.2.2.2.2.2; have := hO.2.1.1; omega), hO.2.2⟩, LR_gr hr (Gr.tr hg (Gr_m fr2 WgM_m)) (by omega) (by omega)⟩
