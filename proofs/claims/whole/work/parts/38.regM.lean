/-! THE REGION; the reference: comesFrom, region, turn. -/
theorem mI_self (h : mj_H) (a k : Nat) (v : Int32) : mI (wI h a k v) a k = v := by rw [mI_wI, if_pos rfl, if_pos rfl]
theorem mI_oth {h : mj_H} {a k b j : Nat} {v : Int32} (hn : b ≠ a ∨ j ≠ k) : mI (wI h a k v) b j = mI h b j := by
  rw [mI_wI]
  by_cases hb : b = a
  · subst hb
    rw [if_pos rfl, if_neg (hn.resolve_left (fun z => z rfl))]
  · rw [if_neg hb]
theorem idx_lt {i j R C : Nat} (hi : i < R) (hj : j < C) : i * C + j < R * C := by
  have : (i + 1) * C ≤ R * C := Nat.mul_le_mul_right C hi
  rw [Nat.add_mul, Nat.one_mul] at this
  omega
theorem idx_dm {i j C : Nat} (hj : j < C) : (i * C + j) / C = i ∧ (i * C + j) % C = j := by
  constructor
  · rw [Nat.mul_comm, Nat.mul_add_div (by omega), Nat.div_eq_of_lt hj, Nat.add_zero]
  · rw [Nat.mul_comm, Nat.mul_add_mod, Nat.mod_eq_of_lt hj]
theorem dm_lt {k R C : Nat} (h : k < R * C) : k / C < R ∧ k % C < C ∧ 0 < C := by
  have hc : 0 < C := by
    rcases Nat.eq_zero_or_pos C with z | z
    · subst z
      simp at h
    · exact z
  exact ⟨by rw [Nat.div_lt_iff_lt_mul hc]; exact h, Nat.mod_lt _ hc, hc⟩
theorem dm_eq (k C : Nat) : k / C * C + k % C = k := by rw [Nat.mul_comm]; exact Nat.div_add_mod k C
theorem mul_le {a b c d : Nat} (h1 : a ≤ c) (h2 : b ≤ d) : a * b ≤ c * d := Nat.mul_le_mul h1 h2
abbrev SG : Type := Nat × Nat × (Nat → Option Tl)
def eG (c : Option Tl) : Int32 := eM (c.getD none)
def isT (c : Option Tl) : Bool := match c with
  | some (some _) => true
  | _ => false
def cntT (c : Nat → Option Tl) : Nat → Nat
  | 0 => 0
  | k + 1 => cntT c k + (if isT (c k) = true then 1 else 0)
theorem cntT_le (c : Nat → Option Tl) : ∀ k, cntT c k ≤ k
  | 0 => Nat.le_refl _
  | k + 1 => by
    have := cntT_le c k
    unfold cntT
    split <;> omega
def GM (G : SG) (h : mj_H) : Prop := mI h 38 24 = nI G.1 ∧ mI h 38 25 = nI G.2.1 ∧ ∀ k, k < G.1 * G.2.1 → mI h 54 k = bI (G.2.2 k).isSome ∧ mI h 52 k = eG (G.2.2 k)
def GO (n : Nat) (G : SG) : Prop := ((G.1 = 0 ∧ G.2.1 = 0) ∨ (1 ≤ G.1 ∧ G.1 ≤ 20 ∧ 1 ≤ G.2.1 ∧ G.2.1 ≤ 20)) ∧ ∀ k, k < G.1 * G.2.1 → okA n (G.2.2 k)
theorem GO_le {n : Nat} {G : SG} (h : GO n G) : G.1 ≤ 20 ∧ G.2.1 ≤ 20 ∧ G.1 * G.2.1 ≤ 400 := by
  have h1 : G.1 ≤ 20 ∧ G.2.1 ≤ 20 := by rcases h.1 with z | z <;> omega
  exact ⟨h1.1, h1.2, mul_le h1.1 h1.2⟩
def WGM (a k : Nat) : Prop := (52 ≤ a ∧ a ≤ 55) ∨ (a = 38 ∧ (k = 18 ∨ k = 19 ∨ k = 24 ∨ k = 25))
def WGg (a k : Nat) : Prop := a = 52 ∨ a = 54 ∨ (a = 38 ∧ (k = 24 ∨ k = 25))
def WGo (a k : Nat) : Prop := a = 53 ∨ a = 55 ∨ (a = 38 ∧ (k = 18 ∨ k = 19))
theorem WGM_st : ∀ q ∈ statR, ¬ WGM q.1 q.2.1 := by unfold WGM; decide
theorem WGo_st : ∀ q ∈ statR, ¬ WGo q.1 q.2.1 := by unfold WGo; decide
theorem WGo_M : ∀ a k, WGo a k → WGM a k := by intro a k; unfold WGo WGM; omega
theorem WGM_0 : ¬ WGM 0 1000000000 := by unfold WGM; omega
theorem GM_fr {W : Nat → Nat → Prop} {G : SG} {h h' : mj_H} (hs : HT h) (f : Fr W h h') (hw : ∀ a k, WGg a k → ¬ W a k) (hG : GM G h) : GM G h' := by
  have hn := HT_n hs
  refine ⟨?_, ?_, fun k hk => ⟨?_, ?_⟩⟩
  · rw [f.I (by omega) (hw _ _ (by unfold WGg; omega))]; exact hG.1
  · rw [f.I (by omega) (hw _ _ (by unfold WGg; omega))]; exact hG.2.1
  · rw [f.I (by omega) (hw _ _ (by unfold WGg; omega))]; exact (hG.2.2 k hk).1
  · rw [f.I (by omega) (hw _ _ (by unfold WGg; omega))]; exact (hG.2.2 k hk).2
theorem PM_G {P : SP} {h h' : mj_H} (hs : HT h) (f : Fr WGM h h') (hP : PM P h) : PM P h' := PM_fr hs f (by intro a k; unfold WPM WGM; omega) hP
theorem KM_G {K : SK} {h h' : mj_H} (hs : HT h) (f : Fr WGM h h') (hP : KM K h) : KM K h' := KM_fr hs f (by intro a k; unfold WKM WGM; omega) hP
def frI (m R C i j : Nat) : Nat := if m % 4 = 0 then i else if m % 4 = 1 then R - 1 - j else if m % 4 = 2 then R - 1 - i else j
def frX (m R C i j : Nat) : Nat := if m % 4 = 0 then j else if m % 4 = 1 then i else if m % 4 = 2 then C - 1 - j else C - 1 - i
def frJ (m R C i j : Nat) : Nat := if 4 ≤ m then C - 1 - frX m R C i j else frX m R C i j
def tR (m R C : Nat) : Nat := if m % 2 = 0 then R else C
def tC (m R C : Nat) : Nat := if m % 2 = 0 then C else R
theorem fr_lt {m R C i j : Nat} (hi : i < tR m R C) (hj : j < tC m R C) : frI m R C i j < R ∧ frJ m R C i j < C := by
  unfold tR at hi
  unfold tC at hj
  have h4 : m % 4 = 0 ∨ m % 4 = 1 ∨ m % 4 = 2 ∨ m % 4 = 3 := by omega
  unfold frJ frI frX
  rcases h4 with z | z | z | z
  · rw [if_pos (by omega)] at hi hj
    refine ⟨?_, ?_⟩ <;> simp [z] <;> (try split) <;> omega
  · rw [if_neg (by omega)] at hi hj
    refine ⟨?_, ?_⟩ <;> simp [z] <;> (try split) <;> omega
  · rw [if_pos (by omega)] at hi hj
    refine ⟨?_, ?_⟩ <;> simp [z] <;> (try split) <;> omega
  · rw [if_neg (by omega)] at hi hj
    refine ⟨?_, ?_⟩ <;> simp [z] <;> (try split) <;> omega
def fromK (m R C k : Nat) : Nat := frI m R C (k / tC m R C) (k % tC m R C) * C + frJ m R C (k / tC m R C) (k % tC m R C)
theorem t_mul (m R C : Nat) : tR m R C * tC m R C = R * C := by
  unfold tR tC
  split
  · rfl
  · exact Nat.mul_comm _ _
theorem fromK_lt {m R C k : Nat} (hk : k < R * C) : fromK m R C k < R * C := by
  rw [← t_mul m] at hk
  obtain ⟨h1, h2, -⟩ := dm_lt hk
  obtain ⟨h3, h4⟩ := fr_lt h1 h2
  exact idx_lt h3 h4
def tnG (K : SK) (G : SG) (m : Nat) : SG := (tR m G.1 G.2.1, tC m G.1 G.2.1, fun k => mvA K (G.2.2 (fromK m G.1 G.2.1 k)) m)
theorem eG_mv (K : SK) (c : Option Tl) (m : Nat) : eG (mvA K c m) = eM (mvT K (c.getD none) m) := by
  cases c <;> rfl
theorem mvA_some (K : SK) (c : Option Tl) (m : Nat) : (mvA K c m).isSome = c.isSome := by
  cases c <;> rfl
theorem tnG_ok {K : SK} (hO : KO K) {G : SG} {m : Nat} (hG : GO K.1 G) : GO K.1 (tnG K G m) := by
  refine ⟨?_, fun k hk => ?_⟩
  · have := hG.1
    unfold tnG tR tC
    dsimp only
    split <;> omega
  · refine mvA_ok hO (hG.2 _ (fromK_lt ?_))
    rw [← t_mul m]
    exact hk
abbrev okRg (P : SP) (p R C : Int) : Prop := 0 ≤ p ∧ p < pNp P ∧ 1 ≤ R ∧ R ≤ 20 ∧ 1 ≤ C ∧ C ≤ 20
def rgF (P : SP) (p : Nat) (i j : Int) (C k : Nat) : Option Tl := cAt P p (i + ((k / C : Nat) : Int)) (j + ((k % C : Nat) : Int))
def rgG (P : SP) (p : Nat) (i j : Int) (R C : Nat) : SG := (R, C, rgF P p i j C)
theorem rgG_ok {n : Nat} {P : SP} (hQ : PO n P) {p : Nat} (hp : p < pNp P) {i j : Int} {R C : Nat} (h : 1 ≤ R ∧ R ≤ 20 ∧ 1 ≤ C ∧ C ≤ 20) : GO n (rgG P p i j R C) := ⟨Or.inr h, fun k _ => cAt_ok hQ hp⟩
theorem rm_comesFrom_s {S : mj_S} {h : mj_H} (hs : HT h) {m R C i j : Nat} (hm : m < 8) (hR : R ≤ 60) (hC : C ≤ 60) (hi : i < tR m R C) (hj : j < tC m R C) : Cl S rm_comesFrom [.ref 38, .int (nI m), .int (nI R), .int (nI C), .int (nI i), .int (nI j)] h (fun r h' => r = none ∧ mI h' 38 18 = nI (frI m R C i j) ∧ mI h' 38 19 = nI (frJ m R C i j) ∧ Fr (fun a k => a = 38 ∧ (k = 18 ∨ k = 19)) h h') := by
  show Ex S rm_comesFrom 0 [some (.ref 38), some (.int (nI (m))), some (.int (nI (R))), some (.int (nI (C))), some (.int (nI (i))), some (.int (nI (j))), none] [] h _
  unfold tR at hi
  unfold tC at hj
  have h4 : m % 4 = 0 ∨ m % 4 = 1 ∨ m % 4 = 2 ∨ m % 4 = 3 := by omega
  rcases h4 with ht | ht | ht | ht
  · rw [if_pos (by omega)] at hi hj
    refine Ex_iload_n d_rm_comesFrom_0 rfl ?_
    refine Ex_iconst d_rm_comesFrom_1 ic_3 ?_
    refine Ex_iand d_rm_comesFrom_2 ?_
    rw [show (((nI (m)) &&& (3 : Int32)) : Int32) = (nI (m % 4)) from (nI_3 m)]
    refine Ex_istore [some (.ref 38), some (.int (nI (m))), some (.int (nI (R))), some (.int (nI (C))), some (.int (nI (i))), some (.int (nI (j))), some (.int (nI (m % 4)))] d_rm_comesFrom_3 (Nat.le_of_ble_eq_true rfl) rfl ?_
    refine Ex_aload_n d_rm_comesFrom_5 rfl ?_
    refine Ex_iload d_rm_comesFrom_6 rfl ?_
    refine Ex_if_neN (m % 4) 16 d_rm_comesFrom_8 rfl rfl (by omega) (fun hc8 => ?_) (fun hc8 => ?_)
    · exfalso; omega
    · refine Ex_iload d_rm_comesFrom_11 rfl ?_
      refine Ex_goto 48 d_rm_comesFrom_13 rfl ?_
      refine Ex_putI d_rm_comesFrom_48 pf_rm_215 (Or.inl rfl) (t_38 hs) (Or.inl rfl) ?_
      refine Ex_aload_n d_rm_comesFrom_51 rfl ?_
      refine Ex_iload d_rm_comesFrom_52 rfl ?_
      refine Ex_if_neN (m % 4) 62 d_rm_comesFrom_54 rfl rfl (by omega) (fun hc54 => ?_) (fun hc54 => ?_)
      · exfalso; omega
      · refine Ex_iload d_rm_comesFrom_57 rfl ?_
        refine Ex_goto 94 d_rm_comesFrom_59 rfl ?_
        refine Ex_putI d_rm_comesFrom_94 pf_rm_218 (Or.inl rfl) (t_38 hs) (Or.inl rfl) ?_
        refine Ex_iload_n d_rm_comesFrom_97 rfl ?_
        refine Ex_iconst d_rm_comesFrom_98 ic_4 ?_
        refine Ex_iand d_rm_comesFrom_99 ?_
        rw [show (((nI (m)) &&& (4 : Int32)) : Int32) = (nI (4 * (m / 4 % 2))) from (and4 m hm)]
        refine Ex_if_eqN (4 * (m / 4 % 2)) 115 d_rm_comesFrom_100 rfl rfl (by omega) (fun hc100 => ?_) (fun hc100 => ?_)
        · refine Ex_return d_rm_comesFrom_115 rfl ?_
          refine ⟨rfl, ?_, ?_, ?_⟩
          · unfold frI; simp [mI_wI, ht]
          · unfold frJ frX; rw [if_neg (by omega)]; simp [mI_wI, ht]
          · repeat refine Fr.sI ?_ (by omega)
            exact Fr.rf
        · refine Ex_aload_n d_rm_comesFrom_103 rfl ?_
          refine Ex_iload_n d_rm_comesFrom_104 rfl ?_
          refine Ex_iconst d_rm_comesFrom_105 ic_1 ?_
          refine Ex_isubN (C) (1) d_rm_comesFrom_106 rfl rfl (by omega) ?_
          refine Ex_aload_n d_rm_comesFrom_107 rfl ?_
          refine Ex_getIE d_rm_comesFrom_108 pf_rm_218 rfl (t_38 hs) (mI_self _ _ _ _) ?_
          refine Ex_isubN (C - 1) (j) d_rm_comesFrom_111 rfl rfl (by omega) ?_
          refine Ex_putI d_rm_comesFrom_112 pf_rm_218 (Or.inl rfl) (t_38 hs) (Or.inl rfl) ?_
          refine Ex_return d_rm_comesFrom_115 rfl ?_
          refine ⟨rfl, ?_, ?_, ?_⟩
          · unfold frI; simp [mI_wI, ht]
          · unfold frJ frX; rw [if_pos (by omega)]; simp [mI_wI, ht]
          · repeat refine Fr.sI ?_ (by omega)
            exact Fr.rf
  · rw [if_neg (by omega)] at hi hj
    refine Ex_iload_n d_rm_comesFrom_0 rfl ?_
    refine Ex_iconst d_rm_comesFrom_1 ic_3 ?_
    refine Ex_iand d_rm_comesFrom_2 ?_
    rw [show (((nI (m)) &&& (3 : Int32)) : Int32) = (nI (m % 4)) from (nI_3 m)]
    refine Ex_istore [some (.ref 38), some (.int (nI (m))), some (.int (nI (R))), some (.int (nI (C))), some (.int (nI (i))), some (.int (nI (j))), some (.int (nI (m % 4)))] d_rm_comesFrom_3 (Nat.le_of_ble_eq_true rfl) rfl ?_
    refine Ex_aload_n d_rm_comesFrom_5 rfl ?_
    refine Ex_iload d_rm_comesFrom_6 rfl ?_
    refine Ex_if_neN (m % 4) 16 d_rm_comesFrom_8 rfl rfl (by omega) (fun hc8 => ?_) (fun hc8 => ?_)
    · refine Ex_iload d_rm_comesFrom_16 rfl ?_
      refine Ex_iconst d_rm_comesFrom_18 ic_1 ?_
      refine Ex_icmp_neN (m % 4) (1) 31 d_rm_comesFrom_19 rfl rfl rfl (by omega) (by omega) (fun hc19 => ?_) (fun hc19 => ?_)
      · exfalso; omega
      · refine Ex_iload_n d_rm_comesFrom_22 rfl ?_
        refine Ex_iconst d_rm_comesFrom_23 ic_1 ?_
        refine Ex_isubN (R) (1) d_rm_comesFrom_24 rfl rfl (by omega) ?_
        refine Ex_iload d_rm_comesFrom_25 rfl ?_
        refine Ex_isubN (R - 1) (j) d_rm_comesFrom_27 rfl rfl (by omega) ?_
        refine Ex_goto 48 d_rm_comesFrom_28 rfl ?_
        refine Ex_putI d_rm_comesFrom_48 pf_rm_215 (Or.inl rfl) (t_38 hs) (Or.inl rfl) ?_
        refine Ex_aload_n d_rm_comesFrom_51 rfl ?_
        refine Ex_iload d_rm_comesFrom_52 rfl ?_
        refine Ex_if_neN (m % 4) 62 d_rm_comesFrom_54 rfl rfl (by omega) (fun hc54 => ?_) (fun hc54 => ?_)
        · refine Ex_iload d_rm_comesFrom_62 rfl ?_
          refine Ex_iconst d_rm_comesFrom_64 ic_1 ?_
          refine Ex_icmp_neN (m % 4) (1) 73 d_rm_comesFrom_65 rfl rfl rfl (by omega) (by omega) (fun hc65 => ?_) (fun hc65 => ?_)
          · exfalso; omega
          · refine Ex_iload d_rm_comesFrom_68 rfl ?_
            refine Ex_goto 94 d_rm_comesFrom_70 rfl ?_
            refine Ex_putI d_rm_comesFrom_94 pf_rm_218 (Or.inl rfl) (t_38 hs) (Or.inl rfl) ?_
            refine Ex_iload_n d_rm_comesFrom_97 rfl ?_
            refine Ex_iconst d_rm_comesFrom_98 ic_4 ?_
            refine Ex_iand d_rm_comesFrom_99 ?_
            rw [show (((nI (m)) &&& (4 : Int32)) : Int32) = (nI (4 * (m / 4 % 2))) from (and4 m hm)]
            refine Ex_if_eqN (4 * (m / 4 % 2)) 115 d_rm_comesFrom_100 rfl rfl (by omega) (fun hc100 => ?_) (fun hc100 => ?_)
            · refine Ex_return d_rm_comesFrom_115 rfl ?_
              refine ⟨rfl, ?_, ?_, ?_⟩
              · unfold frI; simp [mI_wI, ht]
              · unfold frJ frX; rw [if_neg (by omega)]; simp [mI_wI, ht]
              · repeat refine Fr.sI ?_ (by omega)
                exact Fr.rf
            · refine Ex_aload_n d_rm_comesFrom_103 rfl ?_
              refine Ex_iload_n d_rm_comesFrom_104 rfl ?_
              refine Ex_iconst d_rm_comesFrom_105 ic_1 ?_
              refine Ex_isubN (C) (1) d_rm_comesFrom_106 rfl rfl (by omega) ?_
              refine Ex_aload_n d_rm_comesFrom_107 rfl ?_
              refine Ex_getIE d_rm_comesFrom_108 pf_rm_218 rfl (t_38 hs) (mI_self _ _ _ _) ?_
              refine Ex_isubN (C - 1) (i) d_rm_comesFrom_111 rfl rfl (by omega) ?_
              refine Ex_putI d_rm_comesFrom_112 pf_rm_218 (Or.inl rfl) (t_38 hs) (Or.inl rfl) ?_
              refine Ex_return d_rm_comesFrom_115 rfl ?_
              refine ⟨rfl, ?_, ?_, ?_⟩
              · unfold frI; simp [mI_wI, ht]
              · unfold frJ frX; rw [if_pos (by omega)]; simp [mI_wI, ht]
              · repeat refine Fr.sI ?_ (by omega)
                exact Fr.rf
        · exfalso; omega
    · exfalso; omega
  · rw [if_pos (by omega)] at hi hj
    refine Ex_iload_n d_rm_comesFrom_0 rfl ?_
    refine Ex_iconst d_rm_comesFrom_1 ic_3 ?_
    refine Ex_iand d_rm_comesFrom_2 ?_
    rw [show (((nI (m)) &&& (3 : Int32)) : Int32) = (nI (m % 4)) from (nI_3 m)]
    refine Ex_istore [some (.ref 38), some (.int (nI (m))), some (.int (nI (R))), some (.int (nI (C))), some (.int (nI (i))), some (.int (nI (j))), some (.int (nI (m % 4)))] d_rm_comesFrom_3 (Nat.le_of_ble_eq_true rfl) rfl ?_
    refine Ex_aload_n d_rm_comesFrom_5 rfl ?_
    refine Ex_iload d_rm_comesFrom_6 rfl ?_
    refine Ex_if_neN (m % 4) 16 d_rm_comesFrom_8 rfl rfl (by omega) (fun hc8 => ?_) (fun hc8 => ?_)
    · refine Ex_iload d_rm_comesFrom_16 rfl ?_
      refine Ex_iconst d_rm_comesFrom_18 ic_1 ?_
      refine Ex_icmp_neN (m % 4) (1) 31 d_rm_comesFrom_19 rfl rfl rfl (by omega) (by omega) (fun hc19 => ?_) (fun hc19 => ?_)
      · refine Ex_iload d_rm_comesFrom_31 rfl ?_
        refine Ex_iconst d_rm_comesFrom_33 ic_2 ?_
        refine Ex_icmp_neN (m % 4) (2) 46 d_rm_comesFrom_34 rfl rfl rfl (by omega) (by omega) (fun hc34 => ?_) (fun hc34 => ?_)
        · exfalso; omega
        · refine Ex_iload_n d_rm_comesFrom_37 rfl ?_
          refine Ex_iconst d_rm_comesFrom_38 ic_1 ?_
          refine Ex_isubN (R) (1) d_rm_comesFrom_39 rfl rfl (by omega) ?_
          refine Ex_iload d_rm_comesFrom_40 rfl ?_
          refine Ex_isubN (R - 1) (i) d_rm_comesFrom_42 rfl rfl (by omega) ?_
          refine Ex_goto 48 d_rm_comesFrom_43 rfl ?_
          refine Ex_putI d_rm_comesFrom_48 pf_rm_215 (Or.inl rfl) (t_38 hs) (Or.inl rfl) ?_
          refine Ex_aload_n d_rm_comesFrom_51 rfl ?_
          refine Ex_iload d_rm_comesFrom_52 rfl ?_
          refine Ex_if_neN (m % 4) 62 d_rm_comesFrom_54 rfl rfl (by omega) (fun hc54 => ?_) (fun hc54 => ?_)
          · refine Ex_iload d_rm_comesFrom_62 rfl ?_
            refine Ex_iconst d_rm_comesFrom_64 ic_1 ?_
            refine Ex_icmp_neN (m % 4) (1) 73 d_rm_comesFrom_65 rfl rfl rfl (by omega) (by omega) (fun hc65 => ?_) (fun hc65 => ?_)
            · refine Ex_iload d_rm_comesFrom_73 rfl ?_
              refine Ex_iconst d_rm_comesFrom_75 ic_2 ?_
              refine Ex_icmp_neN (m % 4) (2) 88 d_rm_comesFrom_76 rfl rfl rfl (by omega) (by omega) (fun hc76 => ?_) (fun hc76 => ?_)
              · exfalso; omega
              · refine Ex_iload_n d_rm_comesFrom_79 rfl ?_
                refine Ex_iconst d_rm_comesFrom_80 ic_1 ?_
                refine Ex_isubN (C) (1) d_rm_comesFrom_81 rfl rfl (by omega) ?_
                refine Ex_iload d_rm_comesFrom_82 rfl ?_
                refine Ex_isubN (C - 1) (j) d_rm_comesFrom_84 rfl rfl (by omega) ?_
                refine Ex_goto 94 d_rm_comesFrom_85 rfl ?_
                refine Ex_putI d_rm_comesFrom_94 pf_rm_218 (Or.inl rfl) (t_38 hs) (Or.inl rfl) ?_
                refine Ex_iload_n d_rm_comesFrom_97 rfl ?_
                refine Ex_iconst d_rm_comesFrom_98 ic_4 ?_
                refine Ex_iand d_rm_comesFrom_99 ?_
                rw [show (((nI (m)) &&& (4 : Int32)) : Int32) = (nI (4 * (m / 4 % 2))) from (and4 m hm)]
                refine Ex_if_eqN (4 * (m / 4 % 2)) 115 d_rm_comesFrom_100 rfl rfl (by omega) (fun hc100 => ?_) (fun hc100 => ?_)
                · refine Ex_return d_rm_comesFrom_115 rfl ?_
                  refine ⟨rfl, ?_, ?_, ?_⟩
                  · unfold frI; simp [mI_wI, ht]
                  · unfold frJ frX; rw [if_neg (by omega)]; simp [mI_wI, ht]
                  · repeat refine Fr.sI ?_ (by omega)
                    exact Fr.rf
                · refine Ex_aload_n d_rm_comesFrom_103 rfl ?_
                  refine Ex_iload_n d_rm_comesFrom_104 rfl ?_
                  refine Ex_iconst d_rm_comesFrom_105 ic_1 ?_
                  refine Ex_isubN (C) (1) d_rm_comesFrom_106 rfl rfl (by omega) ?_
                  refine Ex_aload_n d_rm_comesFrom_107 rfl ?_
                  refine Ex_getIE d_rm_comesFrom_108 pf_rm_218 rfl (t_38 hs) (mI_self _ _ _ _) ?_
                  refine Ex_isubN (C - 1) (C - 1 - j) d_rm_comesFrom_111 rfl rfl (by omega) ?_
                  refine Ex_putI d_rm_comesFrom_112 pf_rm_218 (Or.inl rfl) (t_38 hs) (Or.inl rfl) ?_
                  refine Ex_return d_rm_comesFrom_115 rfl ?_
                  refine ⟨rfl, ?_, ?_, ?_⟩
                  · unfold frI; simp [mI_wI, ht]
                  · unfold frJ frX; rw [if_pos (by omega)]; simp [mI_wI, ht]
                  · repeat refine Fr.sI ?_ (by omega)
                    exact Fr.rf
            · exfalso; omega
          · exfalso; omega
      · exfalso; omega
    · exfalso; omega
  · rw [if_neg (by omega)] at hi hj
    refine Ex_iload_n d_rm_comesFrom_0 rfl ?_
    refine Ex_iconst d_rm_comesFrom_1 ic_3 ?_
    refine Ex_iand d_rm_comesFrom_2 ?_
    rw [show (((nI (m)) &&& (3 : Int32)) : Int32) = (nI (m % 4)) from (nI_3 m)]
    refine Ex_istore [some (.ref 38), some (.int (nI (m))), some (.int (nI (R))), some (.int (nI (C))), some (.int (nI (i))), some (.int (nI (j))), some (.int (nI (m % 4)))] d_rm_comesFrom_3 (Nat.le_of_ble_eq_true rfl) rfl ?_
    refine Ex_aload_n d_rm_comesFrom_5 rfl ?_
    refine Ex_iload d_rm_comesFrom_6 rfl ?_
    refine Ex_if_neN (m % 4) 16 d_rm_comesFrom_8 rfl rfl (by omega) (fun hc8 => ?_) (fun hc8 => ?_)
    · refine Ex_iload d_rm_comesFrom_16 rfl ?_
      refine Ex_iconst d_rm_comesFrom_18 ic_1 ?_
      refine Ex_icmp_neN (m % 4) (1) 31 d_rm_comesFrom_19 rfl rfl rfl (by omega) (by omega) (fun hc19 => ?_) (fun hc19 => ?_)
      · refine Ex_iload d_rm_comesFrom_31 rfl ?_
        refine Ex_iconst d_rm_comesFrom_33 ic_2 ?_
        refine Ex_icmp_neN (m % 4) (2) 46 d_rm_comesFrom_34 rfl rfl rfl (by omega) (by omega) (fun hc34 => ?_) (fun hc34 => ?_)
        · refine Ex_iload d_rm_comesFrom_46 rfl ?_
          refine Ex_putI d_rm_comesFrom_48 pf_rm_215 (Or.inl rfl) (t_38 hs) (Or.inl rfl) ?_
          refine Ex_aload_n d_rm_comesFrom_51 rfl ?_
          refine Ex_iload d_rm_comesFrom_52 rfl ?_
          refine Ex_if_neN (m % 4) 62 d_rm_comesFrom_54 rfl rfl (by omega) (fun hc54 => ?_) (fun hc54 => ?_)
          · refine Ex_iload d_rm_comesFrom_62 rfl ?_
            refine Ex_iconst d_rm_comesFrom_64 ic_1 ?_
            refine Ex_icmp_neN (m % 4) (1) 73 d_rm_comesFrom_65 rfl rfl rfl (by omega) (by omega) (fun hc65 => ?_) (fun hc65 => ?_)
            · refine Ex_iload d_rm_comesFrom_73 rfl ?_
              refine Ex_iconst d_rm_comesFrom_75 ic_2 ?_
              refine Ex_icmp_neN (m % 4) (2) 88 d_rm_comesFrom_76 rfl rfl rfl (by omega) (by omega) (fun hc76 => ?_) (fun hc76 => ?_)
              · refine Ex_iload_n d_rm_comesFrom_88 rfl ?_
                refine Ex_iconst d_rm_comesFrom_89 ic_1 ?_
                refine Ex_isubN (C) (1) d_rm_comesFrom_90 rfl rfl (by omega) ?_
                refine Ex_iload d_rm_comesFrom_91 rfl ?_
                refine Ex_isubN (C - 1) (i) d_rm_comesFrom_93 rfl rfl (by omega) ?_
                refine Ex_putI d_rm_comesFrom_94 pf_rm_218 (Or.inl rfl) (t_38 hs) (Or.inl rfl) ?_
                refine Ex_iload_n d_rm_comesFrom_97 rfl ?_
                refine Ex_iconst d_rm_comesFrom_98 ic_4 ?_
                refine Ex_iand d_rm_comesFrom_99 ?_
                rw [show (((nI (m)) &&& (4 : Int32)) : Int32) = (nI (4 * (m / 4 % 2))) from (and4 m hm)]
                refine Ex_if_eqN (4 * (m / 4 % 2)) 115 d_rm_comesFrom_100 rfl rfl (by omega) (fun hc100 => ?_) (fun hc100 => ?_)
                · refine Ex_return d_rm_comesFrom_115 rfl ?_
                  refine ⟨rfl, ?_, ?_, ?_⟩
                  · unfold frI; simp [mI_wI, ht]
                  · unfold frJ frX; rw [if_neg (by omega)]; simp [mI_wI, ht]
                  · repeat refine Fr.sI ?_ (by omega)
                    exact Fr.rf
                · refine Ex_aload_n d_rm_comesFrom_103 rfl ?_
                  refine Ex_iload_n d_rm_comesFrom_104 rfl ?_
                  refine Ex_iconst d_rm_comesFrom_105 ic_1 ?_
                  refine Ex_isubN (C) (1) d_rm_comesFrom_106 rfl rfl (by omega) ?_
                  refine Ex_aload_n d_rm_comesFrom_107 rfl ?_
                  refine Ex_getIE d_rm_comesFrom_108 pf_rm_218 rfl (t_38 hs) (mI_self _ _ _ _) ?_
                  refine Ex_isubN (C - 1) (C - 1 - i) d_rm_comesFrom_111 rfl rfl (by omega) ?_
                  refine Ex_putI d_rm_comesFrom_112 pf_rm_218 (Or.inl rfl) (t_38 hs) (Or.inl rfl) ?_
                  refine Ex_return d_rm_comesFrom_115 rfl ?_
                  refine ⟨rfl, ?_, ?_, ?_⟩
                  · unfold frI; simp [mI_wI, ht]
                  · unfold frJ frX; rw [if_pos (by omega)]; simp [mI_wI, ht]
                  · repeat refine Fr.sI ?_ (by omega)
                    exact Fr.rf
              · exfalso; omega
            · exfalso; omega
          · exfalso; omega
        · exfalso; omega
      · exfalso; omega
    · exfalso; omega
theorem eM_ne {q : Nat × Nat × Nat} (h : okT 40 (some q)) : ¬ eM (some q) = 0 := by
  intro z
  have := (eM_inj h (b := none) trivial).mp z
  cases this
theorem rm_region_L {S : mj_S} {Q : Option Value → mj_H → Prop} {h : mj_H} (hs : HT h) {P : SP} (hP : PM P h) {n : Nat} (hQ : PO n P) {a R C : Nat} (ha : a < pNp P) {i j : Int} (hi : -2147483648 ≤ i ∧ i < 2147483648) (hj : -2147483648 ≤ j ∧ j < 2147483648) (hR : 1 ≤ R ∧ R ≤ 20) (hC : 1 ≤ C ∧ C ≤ 20) (h24 : mI h 38 24 = nI R) (h25 : mI h 38 25 = nI C) (hn : n ≤ 40)
    (kx : ∀ h1 : mj_H, (Fr (fun a _ => a = 52 ∨ a = 54) h h1 ∧ ∀ x, x < R * C → mI h1 54 x = bI (rgF P a i j C x).isSome ∧ mI h1 52 x = eG (rgF P a i j C x)) → Ex S rm_region 160 [some (.ref 38), some (.int (nI (a))), some (.int (J (i))), some (.int (J (j))), some (.int (nI (R))), some (.int (nI (C))), some (.int (nI (cntT (rgF P a i j C) (R * C)))), some (.int (nI (R * C))), none, none, none, none] [] h1 Q) : ∀ d k : Nat, k + d = R * C → ∀ h1 : mj_H, (Fr (fun a _ => a = 52 ∨ a = 54) h h1 ∧ ∀ x, x < k → mI h1 54 x = bI (rgF P a i j C x).isSome ∧ mI h1 52 x = eG (rgF P a i j C x)) → Ex S rm_region 54 [some (.ref 38), some (.int (nI (a))), some (.int (J (i))), some (.int (J (j))), some (.int (nI (R))), some (.int (nI (C))), some (.int (nI (cntT (rgF P a i j C) (k)))), some (.int (nI (k))), none, none, none, none] [] h1 Q := by
  have hrc : R * C ≤ 20 * 20 := mul_le hR.2 hC.2
  intro d
  induction d with
  | zero =>
    intro k hk h1 hI
    obtain rfl : k = R * C := by omega
    refine Ex_iload d_rm_region_54 rfl ?_
    refine Ex_iload d_rm_region_56 rfl ?_
    refine Ex_iload d_rm_region_58 rfl ?_
    refine Ex_imulN (R) (C) d_rm_region_60 rfl rfl ?_
    refine Ex_icmp_geN (R * C) (R * C) 160 d_rm_region_61 rfl rfl rfl (by omega) (by omega) (fun hc61 => ?_) (fun hc61 => ?_)
    · exact kx h1 hI
    · exfalso; omega
  | succ d ih =>
    intro k hk h1 hI
    obtain ⟨hk1, hk2, -⟩ := dm_lt (show k < R * C by omega)
    have f1 : Fr WGM h h1 := hI.1.mono (by intro a k; unfold WGM; omega)
    have hs1 : HT h1 := f1.ht hs WGM_st
    have hP1 := PM_G hs f1 hP
    have hcl := cntT_le (rgF P a i j C) k
    have hq0 : (0 : Int) ≤ (k : Int) / (C : Int) := Int.ediv_nonneg (by omega) (by omega)
    refine Ex_iload d_rm_region_54 rfl ?_
    refine Ex_iload d_rm_region_56 rfl ?_
    refine Ex_iload d_rm_region_58 rfl ?_
    refine Ex_imulN (R) (C) d_rm_region_60 rfl rfl ?_
    refine Ex_icmp_geN (k) (R * C) 160 d_rm_region_61 rfl rfl rfl (by omega) (by omega) (fun hc61 => ?_) (fun hc61 => ?_)
    · exfalso; omega
    · refine Ex_iload_n d_rm_region_64 rfl ?_
      refine Ex_i2lZ (i) d_rm_region_65 rfl (by omega) ?_
      refine Ex_iload d_rm_region_66 rfl ?_
      refine Ex_iload d_rm_region_68 rfl ?_
      refine Ex_idivN (k) (C) d_rm_region_70 rfl rfl (by omega) (by omega) ?_
      refine Ex_i2lZ (((k / C : Nat) : Int)) d_rm_region_71 (nIJ _) (by omega) ?_
      refine Ex_laddZ (i) (((k / C : Nat) : Int)) d_rm_region_72 rfl rfl ?_
      refine Ex_lstore [some (.ref 38), some (.int (nI (a))), some (.int (J (i))), some (.int (J (j))), some (.int (nI (R))), some (.int (nI (C))), some (.int (nI (cntT (rgF P a i j C) (k)))), some (.int (nI (k))), some (.long (JL (i + (((k / C : Nat) : Int))))), none, none, none] d_rm_region_73 (Nat.le_of_ble_eq_true rfl) rfl ?_
      refine Ex_iload_n d_rm_region_75 rfl ?_
      refine Ex_i2lZ (j) d_rm_region_76 rfl (by omega) ?_
      refine Ex_iload d_rm_region_77 rfl ?_
      refine Ex_iload d_rm_region_79 rfl ?_
      refine Ex_iremN (k) (C) d_rm_region_81 rfl rfl (by omega) (by omega) ?_
      refine Ex_i2lZ (((k % C : Nat) : Int)) d_rm_region_82 (nIJ _) (by omega) ?_
      refine Ex_laddZ (j) (((k % C : Nat) : Int)) d_rm_region_83 rfl rfl ?_
      refine Ex_lstore [some (.ref 38), some (.int (nI (a))), some (.int (J (i))), some (.int (J (j))), some (.int (nI (R))), some (.int (nI (C))), some (.int (nI (cntT (rgF P a i j C) (k)))), some (.int (nI (k))), some (.long (JL (i + (((k / C : Nat) : Int))))), none, some (.long (JL (j + (((k % C : Nat) : Int))))), none] d_rm_region_84 (Nat.le_of_ble_eq_true rfl) rfl ?_
      refine Ex_aload_n d_rm_region_86 rfl ?_
      refine Ex_getR d_rm_region_87 pf_rm_58 rfl (t_38 hs1) (r_38_22 hs1) ?_
      refine Ex_iload d_rm_region_90 rfl ?_
      refine Ex_aload_n d_rm_region_92 rfl ?_
      refine Ex_iload_n d_rm_region_93 rfl ?_
      refine Ex_lload d_rm_region_94 rfl ?_
      refine Ex_lload d_rm_region_96 rfl ?_
      refine Ex_pV3 (v := .int (bI ((rgF P a i j C k).isSome))) d_rm_region_98 pk_rm_region_204 (t_38 hs1) (rm_has_s hs1 hP1 hQ ha (by omega) (by omega)) ?_
      refine Ex_bastoreN (a := k) d_rm_region_101 (t_54 hs1) rfl (by omega) (by decide) (bI_01 _) ?_
      refine Ex_aload_n d_rm_region_102 rfl ?_
      refine Ex_getR d_rm_region_103 pf_rm_52 rfl (t_38 hs1) (r_38_20 hs1) ?_
      refine Ex_iload d_rm_region_106 rfl ?_
      refine Ex_aload_n d_rm_region_108 rfl ?_
      refine Ex_getR d_rm_region_109 pf_rm_58 rfl (t_38 hs1) (r_38_22 hs1) ?_
      refine Ex_iload d_rm_region_112 rfl ?_
      refine Ex_baloadN (a := k) d_rm_region_114 (t_54 hs1) rfl (by omega) (by decide) (mI_self _ _ _ _) ?_
      refine Ex_if_eqB ((rgF P a i j C k).isSome) 132 d_rm_region_115 rfl rfl (fun hc115 => ?_) (fun hc115 => ?_)
      · have hc0 : rgF P a i j C k = none := by
          cases z : rgF P a i j C k with
          | none => rfl
          | some _ => rw [z] at hc115; cases hc115
        refine Ex_iconst d_rm_region_132 ic_0 ?_
        refine Ex_iastoreN (a := k) d_rm_region_133 (t_52 hs1) rfl (by omega) (by decide) ?_
        refine Ex_iload d_rm_region_134 rfl ?_
        refine Ex_aload_n d_rm_region_136 rfl ?_
        refine Ex_getR d_rm_region_137 pf_rm_52 rfl (t_38 hs1) (r_38_20 hs1) ?_
        refine Ex_iload d_rm_region_140 rfl ?_
        refine Ex_ialoadN (a := k) d_rm_region_142 (t_52 hs1) rfl (by omega) (by decide) (mI_self _ _ _ _) ?_
        refine Ex_if_eqN (0) 150 d_rm_region_143 rfl rfl (by omega) (fun hc143 => ?_) (fun hc143 => ?_)
        · refine Ex_iconst d_rm_region_150 ic_0 ?_
          refine Ex_iaddN (cntT (rgF P a i j C) (k)) (0) d_rm_region_151 rfl rfl ?_
          refine Ex_istore [some (.ref 38), some (.int (nI (a))), some (.int (J (i))), some (.int (J (j))), some (.int (nI (R))), some (.int (nI (C))), some (.int (nI ((cntT (rgF P a i j C) (k)) + 0))), some (.int (nI (k))), some (.long (JL (i + (((k / C : Nat) : Int))))), none, some (.long (JL (j + (((k % C : Nat) : Int))))), none] d_rm_region_152 (Nat.le_of_ble_eq_true rfl) rfl ?_
          refine Ex_iincN (k) 1 [some (.ref 38), some (.int (nI (a))), some (.int (J (i))), some (.int (J (j))), some (.int (nI (R))), some (.int (nI (C))), some (.int (nI ((cntT (rgF P a i j C) (k)) + 0))), some (.int (nI (k + 1))), some (.long (JL (i + (((k / C : Nat) : Int))))), none, some (.long (JL (j + (((k % C : Nat) : Int))))), none] d_rm_region_154 rfl rfl rfl rfl ?_
          refine Ex_goto 54 d_rm_region_157 rfl ?_
          have hct : cntT (rgF P a i j C) (k + 1) = cntT (rgF P a i j C) k + 0 := by
            show _ + _ = _
            rw [hc0]
            rfl
          have z := ih (k + 1) (by omega)
          rw [hct] at z
          refine Ex_forget (ls' := [some (.ref 38), some (.int (nI (a))), some (.int (J (i))), some (.int (J (j))), some (.int (nI (R))), some (.int (nI (C))), some (.int (nI ((cntT (rgF P a i j C) (k)) + 0))), some (.int (nI (k + 1))), none, none, none, none]) (sub_s (sub_s (sub_s (sub_s (sub_s (sub_s (sub_s (sub_s (sub_n (sub_n (sub_n (sub_n sub_0)))))))))))) (z _ ⟨Fr.sI (Fr.sI hI.1 (Or.inr rfl)) (Or.inl rfl), fun x hx => ?_⟩)
          by_cases hxk : x = k
          · subst hxk
            refine ⟨by rw [mI_oth (Or.inl (by decide)), mI_self], ?_⟩
            rw [mI_self, hc0]
            rfl
          · rw [mI_oth (Or.inl (by decide)), mI_oth (Or.inr hxk), mI_oth (Or.inr hxk), mI_oth (Or.inl (by decide))]
            exact hI.2 x (by omega)
        · exact absurd hc143 (by decide)
      · obtain ⟨c0, hc0⟩ := Option.isSome_iff_exists.mp hc115
        obtain ⟨b1, b2, b3, b4, -⟩ := cAt_some hc0
        have b5 := (hQ.2.2.2.1 a ha).1
        have b6 := hQ.2.1 _ (PO_row hQ ha (i := (i + (((k / C : Nat)) : Int)).toNat) (by omega))
        refine Ex_aload_n d_rm_region_118 rfl ?_
        refine Ex_iload_n d_rm_region_119 rfl ?_
        refine Ex_lload d_rm_region_120 rfl ?_
        refine Ex_l2iZ (i + (((k / C : Nat) : Int))) d_rm_region_122 rfl (by omega) ?_
        refine Ex_lload d_rm_region_123 rfl ?_
        refine Ex_l2iZ (j + (((k % C : Nat) : Int))) d_rm_region_125 rfl (by omega) ?_
        refine Ex_pV3 (v := .int (eM c0)) d_rm_region_126 pk_rm_region_212 (t_38 hs1) (rm_cellAt_s (h := (wI h1 54 (k) ((bI ((rgF P a i j C k).isSome))))) hs1 (PM_G hs1 (Fr.sI Fr.rf (by unfold WGM; omega)) hP1) hQ ha hc0) ?_
        refine Ex_goto 133 d_rm_region_129 rfl ?_
        refine Ex_iastoreN (a := k) d_rm_region_133 (t_52 hs1) rfl (by omega) (by decide) ?_
        refine Ex_iload d_rm_region_134 rfl ?_
        refine Ex_aload_n d_rm_region_136 rfl ?_
        refine Ex_getR d_rm_region_137 pf_rm_52 rfl (t_38 hs1) (r_38_20 hs1) ?_
        refine Ex_iload d_rm_region_140 rfl ?_
        refine Ex_ialoadN (a := k) d_rm_region_142 (t_52 hs1) rfl (by omega) (by decide) (mI_self _ _ _ _) ?_
        refine Ex_if_eq 150 d_rm_region_143 rfl (fun hc143 => ?_) (fun hc143 => ?_)
        · refine Ex_iconst d_rm_region_150 ic_0 ?_
          refine Ex_iaddN (cntT (rgF P a i j C) (k)) (0) d_rm_region_151 rfl rfl ?_
          refine Ex_istore [some (.ref 38), some (.int (nI (a))), some (.int (J (i))), some (.int (J (j))), some (.int (nI (R))), some (.int (nI (C))), some (.int (nI ((cntT (rgF P a i j C) (k)) + 0))), some (.int (nI (k))), some (.long (JL (i + (((k / C : Nat) : Int))))), none, some (.long (JL (j + (((k % C : Nat) : Int))))), none] d_rm_region_152 (Nat.le_of_ble_eq_true rfl) rfl ?_
          refine Ex_iincN (k) 1 [some (.ref 38), some (.int (nI (a))), some (.int (J (i))), some (.int (J (j))), some (.int (nI (R))), some (.int (nI (C))), some (.int (nI ((cntT (rgF P a i j C) (k)) + 0))), some (.int (nI (k + 1))), some (.long (JL (i + (((k / C : Nat) : Int))))), none, some (.long (JL (j + (((k % C : Nat) : Int))))), none] d_rm_region_154 rfl rfl rfl rfl ?_
          refine Ex_goto 54 d_rm_region_157 rfl ?_
          have hct : cntT (rgF P a i j C) (k + 1) = cntT (rgF P a i j C) k + 0 := by
            show _ + _ = _
            rw [hc0]
            match c0, hc143, cAt_ok hQ ha (i := i + (((k / C : Nat)) : Int)) (j := j + (((k % C : Nat)) : Int)) with
            | none, _, _ => rfl
            | some q, z, zz =>
              exfalso
              have zz : okA n (rgF P a i j C k) := zz
              rw [hc0] at zz
              exact eM_ne (okT_mono zz hn) z
          have z := ih (k + 1) (by omega)
          rw [hct] at z
          refine Ex_forget (ls' := [some (.ref 38), some (.int (nI (a))), some (.int (J (i))), some (.int (J (j))), some (.int (nI (R))), some (.int (nI (C))), some (.int (nI ((cntT (rgF P a i j C) (k)) + 0))), some (.int (nI (k + 1))), none, none, none, none]) (sub_s (sub_s (sub_s (sub_s (sub_s (sub_s (sub_s (sub_s (sub_n (sub_n (sub_n (sub_n sub_0)))))))))))) (z _ ⟨Fr.sI (Fr.sI hI.1 (Or.inr rfl)) (Or.inl rfl), fun x hx => ?_⟩)
          by_cases hxk : x = k
          · subst hxk
            refine ⟨by rw [mI_oth (Or.inl (by decide)), mI_self], ?_⟩
            rw [mI_self, hc0]
            rfl
          · rw [mI_oth (Or.inl (by decide)), mI_oth (Or.inr hxk), mI_oth (Or.inr hxk), mI_oth (Or.inl (by decide))]
            exact hI.2 x (by omega)
        · refine Ex_iconst d_rm_region_146 ic_1 ?_
          refine Ex_goto 151 d_rm_region_147 rfl ?_
          refine Ex_iaddN (cntT (rgF P a i j C) (k)) (1) d_rm_region_151 rfl rfl ?_
          refine Ex_istore [some (.ref 38), some (.int (nI (a))), some (.int (J (i))), some (.int (J (j))), some (.int (nI (R))), some (.int (nI (C))), some (.int (nI ((cntT (rgF P a i j C) (k)) + 1))), some (.int (nI (k))), some (.long (JL (i + (((k / C : Nat) : Int))))), none, some (.long (JL (j + (((k % C : Nat) : Int))))), none] d_rm_region_152 (Nat.le_of_ble_eq_true rfl) rfl ?_
          refine Ex_iincN (k) 1 [some (.ref 38), some (.int (nI (a))), some (.int (J (i))), some (.int (J (j))), some (.int (nI (R))), some (.int (nI (C))), some (.int (nI ((cntT (rgF P a i j C) (k)) + 1))), some (.int (nI (k + 1))), some (.long (JL (i + (((k / C : Nat) : Int))))), none, some (.long (JL (j + (((k % C : Nat) : Int))))), none] d_rm_region_154 rfl rfl rfl rfl ?_
          refine Ex_goto 54 d_rm_region_157 rfl ?_
          have hct : cntT (rgF P a i j C) (k + 1) = cntT (rgF P a i j C) k + 1 := by
            show _ + _ = _
            rw [hc0]
            cases c0 with
            | none => exact absurd rfl hc143
            | some _ => rfl
          have z := ih (k + 1) (by omega)
          rw [hct] at z
          refine Ex_forget (ls' := [some (.ref 38), some (.int (nI (a))), some (.int (J (i))), some (.int (J (j))), some (.int (nI (R))), some (.int (nI (C))), some (.int (nI ((cntT (rgF P a i j C) (k)) + 1))), some (.int (nI (k + 1))), none, none, none, none]) (sub_s (sub_s (sub_s (sub_s (sub_s (sub_s (sub_s (sub_s (sub_n (sub_n (sub_n (sub_n sub_0)))))))))))) (z _ ⟨Fr.sI (Fr.sI hI.1 (Or.inr rfl)) (Or.inl rfl), fun x hx => ?_⟩)
          by_cases hxk : x = k
          · subst hxk
            refine ⟨by rw [mI_oth (Or.inl (by decide)), mI_self], ?_⟩
            rw [mI_self, hc0]
            rfl
          · rw [mI_oth (Or.inl (by decide)), mI_oth (Or.inr hxk), mI_oth (Or.inr hxk), mI_oth (Or.inl (by decide))]
            exact hI.2 x (by omega)
theorem rm_region_s {S : mj_S} {h : mj_H} (hs : HT h) {P : SP} (hP : PM P h) {n : Nat} (hn : n ≤ 40) (hQ : PO n P) {p i j r c : Int} (hp : -2147483648 ≤ p ∧ p < 2147483648) (hi : -2147483648 ≤ i ∧ i < 2147483648) (hj : -2147483648 ≤ j ∧ j < 2147483648) (hr : -2147483648 ≤ r ∧ r < 2147483648) (hc : -2147483648 ≤ c ∧ c < 2147483648) : Cl S rm_region [.ref 38, .int (J (p)), .int (J (i)), .int (J (j)), .int (J (r)), .int (J (c))] h (AnsN (okRg P p r c) (cntT (rgF P p.toNat i j c.toNat) (r.toNat * c.toNat)) (GM (rgG P p.toNat i j r.toNat c.toNat)) WGM h) := by
  show Ex S rm_region 0 [some (.ref 38), some (.int (J (p))), some (.int (J (i))), some (.int (J (j))), some (.int (J (r))), some (.int (J (c))), none, none, none, none, none, none] [] h _
  refine Ex_aload_n d_rm_region_0 rfl ?_
  refine Ex_iload_n d_rm_region_1 rfl ?_
  refine Ex_pV1 (v := .int (bI (decide (0 ≤ p ∧ p < pNp P)))) d_rm_region_2 pk_rm_region_187 (t_38 hs) (rm_isPattern_s hs hP.2.1 hQ.2.2.1 hp) ?_
  refine Ex_if_eqB (decide (0 ≤ p ∧ p < pNp P)) 34 d_rm_region_5 rfl rfl (fun hc5 => ?_) (fun hc5 => ?_)
  · rw [decide_eq_false_iff_not] at hc5
    refine Ex_iconst d_rm_region_34 ic_m1 ?_
    refine Ex_ireturn d_rm_region_35 rfl ?_
    exact Or.inl ⟨by unfold okRg; omega, rfl, rfl⟩
  · rw [decide_eq_true_eq] at hc5
    refine Ex_iload d_rm_region_8 rfl ?_
    refine Ex_iconst d_rm_region_10 ic_1 ?_
    refine Ex_icmp_ltZ (r) ((1)) 34 d_rm_region_11 rfl rfl (by decide) (by omega) (by omega) (fun hc11 => ?_) (fun hc11 => ?_)
    · refine Ex_iconst d_rm_region_34 ic_m1 ?_
      refine Ex_ireturn d_rm_region_35 rfl ?_
      exact Or.inl ⟨by unfold okRg; omega, rfl, rfl⟩
    · refine Ex_iload d_rm_region_14 rfl ?_
      refine Ex_bipush d_rm_region_16 bp_20 ?_
      refine Ex_icmp_gtZ (r) ((20)) 34 d_rm_region_18 rfl rfl (by decide) (by omega) (by omega) (fun hc18 => ?_) (fun hc18 => ?_)
      · refine Ex_iconst d_rm_region_34 ic_m1 ?_
        refine Ex_ireturn d_rm_region_35 rfl ?_
        exact Or.inl ⟨by unfold okRg; omega, rfl, rfl⟩
      · refine Ex_iload d_rm_region_21 rfl ?_
        refine Ex_iconst d_rm_region_23 ic_1 ?_
        refine Ex_icmp_ltZ (c) ((1)) 34 d_rm_region_24 rfl rfl (by decide) (by omega) (by omega) (fun hc24 => ?_) (fun hc24 => ?_)
        · refine Ex_iconst d_rm_region_34 ic_m1 ?_
          refine Ex_ireturn d_rm_region_35 rfl ?_
          exact Or.inl ⟨by unfold okRg; omega, rfl, rfl⟩
        · refine Ex_iload d_rm_region_27 rfl ?_
          refine Ex_bipush d_rm_region_29 bp_20 ?_
          refine Ex_icmp_leZ (c) ((20)) 36 d_rm_region_31 rfl rfl (by decide) (by omega) (by omega) (fun hc31 => ?_) (fun hc31 => ?_)
          · obtain ⟨a, rfl⟩ : ∃ a : Nat, p = (a : Int) := ⟨p.toNat, by omega⟩
            obtain ⟨R, rfl⟩ : ∃ R : Nat, r = (R : Int) := ⟨r.toNat, by omega⟩
            obtain ⟨C, rfl⟩ : ∃ C : Nat, c = (C : Int) := ⟨c.toNat, by omega⟩
            simp only [← nIJ]
            refine Ex_aload_n d_rm_region_36 rfl ?_
            refine Ex_iload d_rm_region_37 rfl ?_
            refine Ex_putI d_rm_region_39 pf_rm_221 (Or.inl rfl) (t_38 hs) (Or.inl rfl) ?_
            refine Ex_aload_n d_rm_region_42 rfl ?_
            refine Ex_iload d_rm_region_43 rfl ?_
            refine Ex_putI d_rm_region_45 pf_rm_224 (Or.inl rfl) (t_38 hs) (Or.inl rfl) ?_
            refine Ex_iconst d_rm_region_48 ic_0 ?_
            refine Ex_istore [some (.ref 38), some (.int (nI (a))), some (.int (J (i))), some (.int (J (j))), some (.int (nI (R))), some (.int (nI (C))), some (.int (0)), none, none, none, none, none] d_rm_region_49 (Nat.le_of_ble_eq_true rfl) rfl ?_
            refine Ex_iconst d_rm_region_51 ic_0 ?_
            refine Ex_istore [some (.ref 38), some (.int (nI (a))), some (.int (J (i))), some (.int (J (j))), some (.int (nI (R))), some (.int (nI (C))), some (.int (0)), some (.int (0)), none, none, none, none] d_rm_region_52 (Nat.le_of_ble_eq_true rfl) rfl ?_
            have hnn := HT_n hs
            refine rm_region_L (h := (wI (wI h 38 24 ((nI (R)))) 38 25 ((nI (C))))) hs (PM_G hs (Fr.sI (Fr.sI Fr.rf (by unfold WGM; omega)) (by unfold WGM; omega)) hP) hQ (a := a) (R := R) (C := C) (i := i) (j := j) (by omega) hi hj (by omega) (by omega) (by simp [mI_wI]) (by simp [mI_wI]) hn (fun h1 hI => ?_) (R * C) 0 (by omega) _ ⟨Fr.rf, fun x hx => absurd hx (by omega)⟩
            refine Ex_iload d_rm_region_160 rfl ?_
            refine Ex_ireturn d_rm_region_162 rfl ?_
            refine Or.inr ⟨⟨by omega, by omega, by omega, by omega, by omega, by omega⟩, by simp only [Int.toNat_natCast], ?_, ?_⟩
            · simp only [Int.toNat_natCast]
              have f1 : Fr (fun a _ => a = 52 ∨ a = 54) _ h1 := hI.1
              refine ⟨?_, ?_, hI.2⟩
              · rw [f1.I (by show 38 < mN h; omega) (by omega)]; simp [mI_wI, rgG]
              · rw [f1.I (by show 38 < mN h; omega) (by omega)]; simp [mI_wI, rgG]
            · refine Fr.tr (Fr.sI (Fr.sI Fr.rf ?_) ?_) (hI.1.mono ?_)
              · unfold WGM; omega
              · unfold WGM; omega
              · intro a k; unfold WGM; omega
          · refine Ex_iconst d_rm_region_34 ic_m1 ?_
            refine Ex_ireturn d_rm_region_35 rfl ?_
            exact Or.inl ⟨by unfold okRg; omega, rfl, rfl⟩
theorem okA_get {n : Nat} {c : Option Tl} (h : okA n c) : okT n (c.getD none) := by
  cases c with
  | none => trivial
  | some _ => exact h
theorem rm_turn_L1 {S : mj_S} {Q : Option Value → mj_H → Prop} {h : mj_H} (hs : HT h) {K : SK} (hK : KM K h) (hO : KO K) {G : SG} (hG : GM G h) (hGO : GO K.1 G) {m R C : Nat} (hm : m < 8) (hR : R = tR m G.1 G.2.1) (hC : C = tC m G.1 G.2.1)
    (kx : ∀ h1 : mj_H, (Fr WGo h h1 ∧ ∀ x, x < R * C → mI h1 53 x = eG ((tnG K G m).2.2 x) ∧ mI h1 55 x = bI ((tnG K G m).2.2 x).isSome) → Ex S rm_turn 139 [some (.ref 38), some (.int (nI (m))), some (.int (nI (R))), some (.int (nI (C))), some (.int (nI (R * C))), none] [] h1 Q) : ∀ d k : Nat, k + d = R * C → ∀ h1 : mj_H, (Fr WGo h h1 ∧ ∀ x, x < k → mI h1 53 x = eG ((tnG K G m).2.2 x) ∧ mI h1 55 x = bI ((tnG K G m).2.2 x).isSome) → Ex S rm_turn 55 [some (.ref 38), some (.int (nI (m))), some (.int (nI (R))), some (.int (nI (C))), some (.int (nI (k))), none] [] h1 Q := by
  obtain ⟨hg1, hg2, hg3⟩ := GO_le hGO
  have hrc : R * C = G.1 * G.2.1 := by rw [hR, hC]; exact t_mul _ _ _
  intro d
  induction d with
  | zero =>
    intro k hk h1 hI
    obtain rfl : k = R * C := by omega
    refine Ex_iload d_rm_turn_55 rfl ?_
    refine Ex_iload_n d_rm_turn_57 rfl ?_
    refine Ex_iload_n d_rm_turn_58 rfl ?_
    refine Ex_imulN (R) (C) d_rm_turn_59 rfl rfl ?_
    refine Ex_icmp_geN (R * C) (R * C) 139 d_rm_turn_60 rfl rfl rfl (by omega) (by omega) (fun hc60 => ?_) (fun hc60 => ?_)
    · exact kx h1 hI
    · exfalso; omega
  | succ d ih =>
    intro k hk h1 hI
    have f1 := hI.1
    have hs1 : HT h1 := f1.ht hs WGo_st
    have hG1 : GM G h1 := GM_fr hs f1 (by intro a k; unfold WGg WGo; omega) hG
    have hK1 : KM K h1 := KM_G hs (f1.mono WGo_M) hK
    obtain ⟨hk1, hk2, hk3⟩ := dm_lt (show k < R * C by omega)
    have hC20 : C ≤ 20 := by rw [hC]; unfold tC; split <;> omega
    refine Ex_iload d_rm_turn_55 rfl ?_
    refine Ex_iload_n d_rm_turn_57 rfl ?_
    refine Ex_iload_n d_rm_turn_58 rfl ?_
    refine Ex_imulN (R) (C) d_rm_turn_59 rfl rfl ?_
    refine Ex_icmp_geN (k) (R * C) 139 d_rm_turn_60 rfl rfl rfl (by omega) (by omega) (fun hc60 => ?_) (fun hc60 => ?_)
    · exfalso; omega
    · refine Ex_aload_n d_rm_turn_63 rfl ?_
      refine Ex_iload_n d_rm_turn_64 rfl ?_
      refine Ex_aload_n d_rm_turn_65 rfl ?_
      refine Ex_getIE d_rm_turn_66 pf_rm_221 rfl (t_38 hs1) hG1.1 ?_
      refine Ex_aload_n d_rm_turn_69 rfl ?_
      refine Ex_getIE d_rm_turn_70 pf_rm_224 rfl (t_38 hs1) hG1.2.1 ?_
      refine Ex_iload d_rm_turn_73 rfl ?_
      refine Ex_iload_n d_rm_turn_75 rfl ?_
      refine Ex_idivN (k) (C) d_rm_turn_76 rfl rfl (by omega) (by omega) ?_
      refine Ex_iload d_rm_turn_77 rfl ?_
      refine Ex_iload_n d_rm_turn_79 rfl ?_
      refine Ex_iremN (k) (C) d_rm_turn_80 rfl rfl (by omega) (by omega) ?_
      refine Ex_cV5 d_rm_turn_81 pk_rm_turn_227 (t_38 hs1) (rm_comesFrom_s hs1 hm (by omega) (by omega) (by rw [← hR]; exact hk1) (by rw [← hC]; exact hk2)) ?_
      rintro rv h2 ⟨rfl, hv1, hv2, f2'⟩
      have f2 : Fr WGo h1 h2 := f2'.mono (by intro a k; unfold WGo; omega)
      have hs2 : HT h2 := f2.ht hs1 WGo_st
      have hG2 : GM G h2 := GM_fr hs1 f2 (by intro a k; unfold WGg WGo; omega) hG1
      have hK2 : KM K h2 := KM_G hs1 (f2.mono WGo_M) hK1
      have hfk : frI m G.1 G.2.1 (k / C) (k % C) * G.2.1 + frJ m G.1 G.2.1 (k / C) (k % C) = fromK m G.1 G.2.1 k := by unfold fromK; rw [← hC]
      have hfl := fromK_lt (m := m) (show k < G.1 * G.2.1 by omega)
      show Ex S rm_turn 84 [some (.ref 38), some (.int (nI (m))), some (.int (nI (R))), some (.int (nI (C))), some (.int (nI (k))), none] [] h2 _
      refine Ex_aload_n d_rm_turn_84 rfl ?_
      refine Ex_getIE d_rm_turn_85 pf_rm_215 rfl (t_38 hs2) hv1 ?_
      refine Ex_aload_n d_rm_turn_88 rfl ?_
      refine Ex_getIE d_rm_turn_89 pf_rm_224 rfl (t_38 hs2) hG2.2.1 ?_
      refine Ex_imulN (frI m G.1 G.2.1 (k / C) (k % C)) (G.2.1) d_rm_turn_92 rfl rfl ?_
      refine Ex_aload_n d_rm_turn_93 rfl ?_
      refine Ex_getIE d_rm_turn_94 pf_rm_218 rfl (t_38 hs2) hv2 ?_
      refine Ex_iaddN ((frI m G.1 G.2.1 (k / C) (k % C)) * G.2.1) (frJ m G.1 G.2.1 (k / C) (k % C)) d_rm_turn_97 rfl rfl ?_
      rw [show ((nI (((frI m G.1 G.2.1 (k / C) (k % C)) * G.2.1) + (frJ m G.1 G.2.1 (k / C) (k % C)))) : Int32) = (nI (fromK m G.1 G.2.1 k)) from (by rw [hfk])]
      refine Ex_istore [some (.ref 38), some (.int (nI (m))), some (.int (nI (R))), some (.int (nI (C))), some (.int (nI (k))), some (.int (nI (fromK m G.1 G.2.1 k)))] d_rm_turn_98 (Nat.le_of_ble_eq_true rfl) rfl ?_
      refine Ex_aload_n d_rm_turn_100 rfl ?_
      refine Ex_getR d_rm_turn_101 pf_rm_55 rfl (t_38 hs2) (r_38_21 hs2) ?_
      refine Ex_iload d_rm_turn_104 rfl ?_
      refine Ex_aload_n d_rm_turn_106 rfl ?_
      refine Ex_aload_n d_rm_turn_107 rfl ?_
      refine Ex_getR d_rm_turn_108 pf_rm_52 rfl (t_38 hs2) (r_38_20 hs2) ?_
      refine Ex_iload d_rm_turn_111 rfl ?_
      refine Ex_ialoadN (a := fromK m G.1 G.2.1 k) d_rm_turn_113 (t_52 hs2) rfl (by omega) (by decide) (hG2.2.2 _ hfl).2 ?_
      refine Ex_iload_n d_rm_turn_114 rfl ?_
      refine Ex_pV2 (v := .int (eG ((tnG K G m).2.2 k))) d_rm_turn_115 pk_rm_turn_231 (t_38 hs2) (by rw [show eG ((tnG K G m).2.2 k) = eM (mvT K ((G.2.2 (fromK m G.1 G.2.1 k)).getD none) m) from eG_mv K _ m]; exact rm_moved_s hs2 hK2 hO (okA_get (hGO.2 _ hfl)) hm) ?_
      refine Ex_iastoreN (a := k) d_rm_turn_118 (t_53 hs2) rfl (by omega) (by decide) ?_
      refine Ex_aload_n d_rm_turn_119 rfl ?_
      refine Ex_getR d_rm_turn_120 pf_rm_61 rfl (t_38 hs2) (r_38_23 hs2) ?_
      refine Ex_iload d_rm_turn_123 rfl ?_
      refine Ex_aload_n d_rm_turn_125 rfl ?_
      refine Ex_getR d_rm_turn_126 pf_rm_58 rfl (t_38 hs2) (r_38_22 hs2) ?_
      refine Ex_iload d_rm_turn_129 rfl ?_
      refine Ex_baloadN (a := fromK m G.1 G.2.1 k) (y := (bI ((G.2.2 (fromK m G.1 G.2.1 k)).isSome))) d_rm_turn_131 (t_54 hs2) rfl (by omega) (by decide) (by rw [mI_oth (Or.inl (by decide))]; exact (hG2.2.2 _ hfl).1) ?_
      refine Ex_bastoreN (a := k) d_rm_turn_132 (t_55 hs2) rfl (by omega) (by decide) (bI_01 _) ?_
      refine Ex_iincN (k) 1 [some (.ref 38), some (.int (nI (m))), some (.int (nI (R))), some (.int (nI (C))), some (.int (nI (k + 1))), some (.int (nI (fromK m G.1 G.2.1 k)))] d_rm_turn_133 rfl rfl rfl rfl ?_
      refine Ex_goto 55 d_rm_turn_136 rfl ?_
      refine Ex_forget (ls' := [some (.ref 38), some (.int (nI (m))), some (.int (nI (R))), some (.int (nI (C))), some (.int (nI (k + 1))), none]) (sub_s (sub_s (sub_s (sub_s (sub_s (sub_n sub_0)))))) (ih (k + 1) (by omega) _ ⟨Fr.sI (Fr.sI (hI.1.tr f2) (Or.inl rfl)) (Or.inr (Or.inl rfl)), fun x hx => ?_⟩)
      by_cases hxk : x = k
      · subst hxk
        refine ⟨by rw [mI_oth (Or.inl (by decide)), mI_self], ?_⟩
        rw [mI_self]
        exact congrArg bI (mvA_some K _ m).symm
      · rw [mI_oth (Or.inl (by decide)), mI_oth (Or.inr hxk), mI_oth (Or.inr hxk), mI_oth (Or.inl (by decide)), f2'.I (by have := HT_n hs1; omega) (by omega), f2'.I (by have := HT_n hs1; omega) (by omega)]
        exact hI.2 x (by omega)
theorem rm_turn_L2 {S : mj_S} {Q : Option Value → mj_H → Prop} {h : mj_H} (hs : HT h) {K : SK} (hK : KM K h) (hO : KO K) {G : SG} (hG : GM G h) (hGO : GO K.1 G) {m R C : Nat} (hm : m < 8) (hR : R = tR m G.1 G.2.1) (hC : C = tC m G.1 G.2.1)
    (kx : ∀ h1 : mj_H, (Fr WGM h h1 ∧ (∀ x, x < R * C → mI h1 53 x = eG ((tnG K G m).2.2 x) ∧ mI h1 55 x = bI ((tnG K G m).2.2 x).isSome) ∧ ∀ x, x < R * C → mI h1 54 x = bI ((tnG K G m).2.2 x).isSome ∧ mI h1 52 x = eG ((tnG K G m).2.2 x)) → Ex S rm_turn 184 [some (.ref 38), some (.int (nI (m))), some (.int (nI (R))), some (.int (nI (C))), some (.int (nI (R * C))), none] [] h1 Q) : ∀ d k : Nat, k + d = R * C → ∀ h1 : mj_H, (Fr WGM h h1 ∧ (∀ x, x < R * C → mI h1 53 x = eG ((tnG K G m).2.2 x) ∧ mI h1 55 x = bI ((tnG K G m).2.2 x).isSome) ∧ ∀ x, x < k → mI h1 54 x = bI ((tnG K G m).2.2 x).isSome ∧ mI h1 52 x = eG ((tnG K G m).2.2 x)) → Ex S rm_turn 142 [some (.ref 38), some (.int (nI (m))), some (.int (nI (R))), some (.int (nI (C))), some (.int (nI (k))), none] [] h1 Q := by
  obtain ⟨hg1, hg2, hg3⟩ := GO_le hGO
  have hrc : R * C = G.1 * G.2.1 := by rw [hR, hC]; exact t_mul _ _ _
  intro d
  induction d with
  | zero =>
    intro k hk h1 hI
    obtain rfl : k = R * C := by omega
    refine Ex_iload d_rm_turn_142 rfl ?_
    refine Ex_iload_n d_rm_turn_144 rfl ?_
    refine Ex_iload_n d_rm_turn_145 rfl ?_
    refine Ex_imulN (R) (C) d_rm_turn_146 rfl rfl ?_
    refine Ex_icmp_geN (R * C) (R * C) 184 d_rm_turn_147 rfl rfl rfl (by omega) (by omega) (fun hc147 => ?_) (fun hc147 => ?_)
    · exact kx h1 hI
    · exfalso; omega
  | succ d ih =>
    intro k hk h1 hI
    have hs1 : HT h1 := hI.1.ht hs WGM_st
    refine Ex_iload d_rm_turn_142 rfl ?_
    refine Ex_iload_n d_rm_turn_144 rfl ?_
    refine Ex_iload_n d_rm_turn_145 rfl ?_
    refine Ex_imulN (R) (C) d_rm_turn_146 rfl rfl ?_
    refine Ex_icmp_geN (k) (R * C) 184 d_rm_turn_147 rfl rfl rfl (by omega) (by omega) (fun hc147 => ?_) (fun hc147 => ?_)
    · exfalso; omega
    · refine Ex_aload_n d_rm_turn_150 rfl ?_
      refine Ex_getR d_rm_turn_151 pf_rm_52 rfl (t_38 hs1) (r_38_20 hs1) ?_
      refine Ex_iload d_rm_turn_154 rfl ?_
      refine Ex_aload_n d_rm_turn_156 rfl ?_
      refine Ex_getR d_rm_turn_157 pf_rm_55 rfl (t_38 hs1) (r_38_21 hs1) ?_
      refine Ex_iload d_rm_turn_160 rfl ?_
      refine Ex_ialoadN (a := k) d_rm_turn_162 (t_53 hs1) rfl (by omega) (by decide) (hI.2.1 k (by omega)).1 ?_
      refine Ex_iastoreN (a := k) d_rm_turn_163 (t_52 hs1) rfl (by omega) (by decide) ?_
      refine Ex_aload_n d_rm_turn_164 rfl ?_
      refine Ex_getR d_rm_turn_165 pf_rm_58 rfl (t_38 hs1) (r_38_22 hs1) ?_
      refine Ex_iload d_rm_turn_168 rfl ?_
      refine Ex_aload_n d_rm_turn_170 rfl ?_
      refine Ex_getR d_rm_turn_171 pf_rm_61 rfl (t_38 hs1) (r_38_23 hs1) ?_
      refine Ex_iload d_rm_turn_174 rfl ?_
      refine Ex_baloadN (a := k) (y := (bI (((tnG K G m).2.2 k).isSome))) d_rm_turn_176 (t_55 hs1) rfl (by omega) (by decide) (by rw [mI_oth (Or.inl (by decide))]; exact (hI.2.1 k (by omega)).2) ?_
      refine Ex_bastoreN (a := k) d_rm_turn_177 (t_54 hs1) rfl (by omega) (by decide) (bI_01 _) ?_
      refine Ex_iincN (k) 1 [some (.ref 38), some (.int (nI (m))), some (.int (nI (R))), some (.int (nI (C))), some (.int (nI (k + 1))), none] d_rm_turn_178 rfl rfl rfl rfl ?_
      refine Ex_goto 142 d_rm_turn_181 rfl ?_
      refine ih (k + 1) (by omega) _ ⟨Fr.sI (Fr.sI hI.1 (by unfold WGM; omega)) (by unfold WGM; omega), fun x hx => ?_, fun x hx => ?_⟩
      · rw [mI_oth (Or.inl (by decide)), mI_oth (Or.inl (by decide)), mI_oth (Or.inl (by decide)), mI_oth (Or.inl (by decide))]
        exact hI.2.1 x hx
      · by_cases hxk : x = k
        · subst hxk
          refine ⟨by rw [mI_self], ?_⟩
          rw [mI_oth (Or.inl (by decide)), mI_self]
        · rw [mI_oth (Or.inr hxk), mI_oth (Or.inl (by decide)), mI_oth (Or.inl (by decide)), mI_oth (Or.inr hxk)]
          exact hI.2.2 x (by omega)
abbrev okTn (G : SG) (z : Int) : Prop := ¬ G.1 = 0 ∧ 0 ≤ z ∧ z < 8
theorem rm_turn_s {S : mj_S} {h : mj_H} (hs : HT h) {K : SK} (hK : KM K h) (hO : KO K) {G : SG} (hG : GM G h) (hGO : GO K.1 G) {z : Int} (hz : -2147483648 ≤ z ∧ z < 2147483648) : Cl S rm_turn [.ref 38, .int (J z)] h (Ans (okTn G z) (GM G) (GM (tnG K G z.toNat)) WGM h) := by
  show Ex S rm_turn 0 [some (.ref 38), some (.int (J (z))), none, none, none, none] [] h _
  obtain ⟨hg1, hg2, hg3⟩ := GO_le hGO
  by_cases hok : okTn G z
  · obtain ⟨m, rfl⟩ : ∃ m : Nat, z = (m : Int) := ⟨z.toNat, by omega⟩
    have hm : m < 8 := by omega
    simp only [← nIJ]
    rcases (show m % 2 = 0 ∨ m % 2 = 1 by omega) with h2 | h2
    · have hR : G.1 = tR m G.1 G.2.1 := by unfold tR; rw [if_pos h2]
      have hC : G.2.1 = tC m G.1 G.2.1 := by unfold tC; rw [if_pos h2]
      refine Ex_aload_n d_rm_turn_0 rfl ?_
      refine Ex_getIE d_rm_turn_1 pf_rm_221 rfl (t_38 hs) hG.1 ?_
      refine Ex_if_eqN (G.1) 14 d_rm_turn_4 rfl rfl (by omega) (fun hc4 => ?_) (fun hc4 => ?_)
      · exfalso; omega
      · refine Ex_iload_n d_rm_turn_7 rfl ?_
        refine Ex_pS1 (v := .int (bI (decide (0 ≤ (m : Int) ∧ (m : Int) < 8)))) d_rm_turn_8 pk_rm_turn_137 (show Cl S rm_isMove [.int (nI m)] h _ by rw [nIJ]; exact rm_isMove_s (by omega)) ?_
        refine Ex_if_neB (decide (0 ≤ (m : Int) ∧ (m : Int) < 8)) 16 d_rm_turn_11 rfl rfl (fun hc11 => ?_) (fun hc11 => ?_)
        · rw [decide_eq_true_eq] at hc11
          refine Ex_iload_n d_rm_turn_16 rfl ?_
          refine Ex_iconst d_rm_turn_17 ic_1 ?_
          refine Ex_iand d_rm_turn_18 ?_
          rw [show (((nI (m)) &&& (1 : Int32)) : Int32) = (nI (m % 2)) from (nI_1m m)]
          refine Ex_if_neN (m % 2) 29 d_rm_turn_19 rfl rfl (by omega) (fun hc19 => ?_) (fun hc19 => ?_)
          · exfalso; omega
          · refine Ex_aload_n d_rm_turn_22 rfl ?_
            refine Ex_getIE d_rm_turn_23 pf_rm_221 rfl (t_38 hs) hG.1 ?_
            refine Ex_goto 33 d_rm_turn_26 rfl ?_
            refine Ex_istore_n [some (.ref 38), some (.int (nI (m))), some (.int (nI (G.1))), none, none, none] d_rm_turn_33 (Nat.le_of_ble_eq_true rfl) rfl ?_
            refine Ex_iload_n d_rm_turn_34 rfl ?_
            refine Ex_iconst d_rm_turn_35 ic_1 ?_
            refine Ex_iand d_rm_turn_36 ?_
            rw [show (((nI (m)) &&& (1 : Int32)) : Int32) = (nI (m % 2)) from (nI_1m m)]
            refine Ex_if_neN (m % 2) 47 d_rm_turn_37 rfl rfl (by omega) (fun hc37 => ?_) (fun hc37 => ?_)
            · exfalso; omega
            · refine Ex_aload_n d_rm_turn_40 rfl ?_
              refine Ex_getIE d_rm_turn_41 pf_rm_224 rfl (t_38 hs) hG.2.1 ?_
              refine Ex_goto 51 d_rm_turn_44 rfl ?_
              refine Ex_istore_n [some (.ref 38), some (.int (nI (m))), some (.int (nI (G.1))), some (.int (nI (G.2.1))), none, none] d_rm_turn_51 (Nat.le_of_ble_eq_true rfl) rfl ?_
              refine Ex_iconst d_rm_turn_52 ic_0 ?_
              refine Ex_istore [some (.ref 38), some (.int (nI (m))), some (.int (nI (G.1))), some (.int (nI (G.2.1))), some (.int (0)), none] d_rm_turn_53 (Nat.le_of_ble_eq_true rfl) rfl ?_
              refine rm_turn_L1 hs hK hO hG hGO (R := G.1) (C := G.2.1) hm hR hC (fun h1 hI => ?_) (G.1 * G.2.1) 0 (by omega) h ⟨Fr.rf, fun x hx => absurd hx (by omega)⟩
              refine Ex_iconst d_rm_turn_139 ic_0 ?_
              refine Ex_istore [some (.ref 38), some (.int (nI (m))), some (.int (nI (G.1))), some (.int (nI (G.2.1))), some (.int (0)), none] d_rm_turn_140 (Nat.le_of_ble_eq_true rfl) rfl ?_
              refine rm_turn_L2 hs hK hO hG hGO (R := G.1) (C := G.2.1) hm hR hC (fun h2 hI2 => ?_) (G.1 * G.2.1) 0 (by omega) h1 ⟨hI.1.mono WGo_M, hI.2, fun x hx => absurd hx (by omega)⟩
              have hs2 : HT h2 := hI2.1.ht hs WGM_st
              refine Ex_aload_n d_rm_turn_184 rfl ?_
              refine Ex_iload_n d_rm_turn_185 rfl ?_
              refine Ex_putI d_rm_turn_186 pf_rm_221 (Or.inl rfl) (t_38 hs2) (Or.inl rfl) ?_
              refine Ex_aload_n d_rm_turn_189 rfl ?_
              refine Ex_iload_n d_rm_turn_190 rfl ?_
              refine Ex_putI d_rm_turn_191 pf_rm_224 (Or.inl rfl) (t_38 hs2) (Or.inl rfl) ?_
              refine Ex_iconst d_rm_turn_194 ic_1 ?_
              refine Ex_zreturn d_rm_turn_195 rfl (by decide) ?_
              refine Or.inr ⟨⟨by omega, by omega, by omega⟩, rfl, ?_, Fr.sI (Fr.sI hI2.1 (by unfold WGM; omega)) (by unfold WGM; omega)⟩
              rw [Int.toNat_natCast]
              refine ⟨?_, ?_, fun x hx => ?_⟩
              · rw [mI_oth (Or.inr (by decide)), mI_self, hR]; rfl
              · rw [mI_self, hC]; rfl
              · rw [mI_oth (Or.inl (by decide)), mI_oth (Or.inl (by decide)), mI_oth (Or.inl (by decide)), mI_oth (Or.inl (by decide))]
                have hx : x < G.1 * G.2.1 := by have e := t_mul m G.1 G.2.1; have hx2 : x < tR m G.1 G.2.1 * tC m G.1 G.2.1 := hx; rw [e] at hx2; first | exact hx2 | (rw [Nat.mul_comm]; exact hx2)
                exact hI2.2.2 x hx
        · rw [decide_eq_false_iff_not] at hc11
          exfalso; omega
    · have hR : G.2.1 = tR m G.1 G.2.1 := by unfold tR; rw [if_neg (by omega)]
      have hC : G.1 = tC m G.1 G.2.1 := by unfold tC; rw [if_neg (by omega)]
      refine Ex_aload_n d_rm_turn_0 rfl ?_
      refine Ex_getIE d_rm_turn_1 pf_rm_221 rfl (t_38 hs) hG.1 ?_
      refine Ex_if_eqN (G.1) 14 d_rm_turn_4 rfl rfl (by omega) (fun hc4 => ?_) (fun hc4 => ?_)
      · exfalso; omega
      · refine Ex_iload_n d_rm_turn_7 rfl ?_
        refine Ex_pS1 (v := .int (bI (decide (0 ≤ (m : Int) ∧ (m : Int) < 8)))) d_rm_turn_8 pk_rm_turn_137 (show Cl S rm_isMove [.int (nI m)] h _ by rw [nIJ]; exact rm_isMove_s (by omega)) ?_
        refine Ex_if_neB (decide (0 ≤ (m : Int) ∧ (m : Int) < 8)) 16 d_rm_turn_11 rfl rfl (fun hc11 => ?_) (fun hc11 => ?_)
        · rw [decide_eq_true_eq] at hc11
          refine Ex_iload_n d_rm_turn_16 rfl ?_
          refine Ex_iconst d_rm_turn_17 ic_1 ?_
          refine Ex_iand d_rm_turn_18 ?_
          rw [show (((nI (m)) &&& (1 : Int32)) : Int32) = (nI (m % 2)) from (nI_1m m)]
          refine Ex_if_neN (m % 2) 29 d_rm_turn_19 rfl rfl (by omega) (fun hc19 => ?_) (fun hc19 => ?_)
          · refine Ex_aload_n d_rm_turn_29 rfl ?_
            refine Ex_getIE d_rm_turn_30 pf_rm_224 rfl (t_38 hs) hG.2.1 ?_
            refine Ex_istore_n [some (.ref 38), some (.int (nI (m))), some (.int (nI (G.2.1))), none, none, none] d_rm_turn_33 (Nat.le_of_ble_eq_true rfl) rfl ?_
            refine Ex_iload_n d_rm_turn_34 rfl ?_
            refine Ex_iconst d_rm_turn_35 ic_1 ?_
            refine Ex_iand d_rm_turn_36 ?_
            rw [show (((nI (m)) &&& (1 : Int32)) : Int32) = (nI (m % 2)) from (nI_1m m)]
            refine Ex_if_neN (m % 2) 47 d_rm_turn_37 rfl rfl (by omega) (fun hc37 => ?_) (fun hc37 => ?_)
            · refine Ex_aload_n d_rm_turn_47 rfl ?_
              refine Ex_getIE d_rm_turn_48 pf_rm_221 rfl (t_38 hs) hG.1 ?_
              refine Ex_istore_n [some (.ref 38), some (.int (nI (m))), some (.int (nI (G.2.1))), some (.int (nI (G.1))), none, none] d_rm_turn_51 (Nat.le_of_ble_eq_true rfl) rfl ?_
              refine Ex_iconst d_rm_turn_52 ic_0 ?_
              refine Ex_istore [some (.ref 38), some (.int (nI (m))), some (.int (nI (G.2.1))), some (.int (nI (G.1))), some (.int (0)), none] d_rm_turn_53 (Nat.le_of_ble_eq_true rfl) rfl ?_
              refine rm_turn_L1 hs hK hO hG hGO (R := G.2.1) (C := G.1) hm hR hC (fun h1 hI => ?_) (G.2.1 * G.1) 0 (by omega) h ⟨Fr.rf, fun x hx => absurd hx (by omega)⟩
              refine Ex_iconst d_rm_turn_139 ic_0 ?_
              refine Ex_istore [some (.ref 38), some (.int (nI (m))), some (.int (nI (G.2.1))), some (.int (nI (G.1))), some (.int (0)), none] d_rm_turn_140 (Nat.le_of_ble_eq_true rfl) rfl ?_
              refine rm_turn_L2 hs hK hO hG hGO (R := G.2.1) (C := G.1) hm hR hC (fun h2 hI2 => ?_) (G.2.1 * G.1) 0 (by omega) h1 ⟨hI.1.mono WGo_M, hI.2, fun x hx => absurd hx (by omega)⟩
              have hs2 : HT h2 := hI2.1.ht hs WGM_st
              refine Ex_aload_n d_rm_turn_184 rfl ?_
              refine Ex_iload_n d_rm_turn_185 rfl ?_
              refine Ex_putI d_rm_turn_186 pf_rm_221 (Or.inl rfl) (t_38 hs2) (Or.inl rfl) ?_
              refine Ex_aload_n d_rm_turn_189 rfl ?_
              refine Ex_iload_n d_rm_turn_190 rfl ?_
              refine Ex_putI d_rm_turn_191 pf_rm_224 (Or.inl rfl) (t_38 hs2) (Or.inl rfl) ?_
              refine Ex_iconst d_rm_turn_194 ic_1 ?_
              refine Ex_zreturn d_rm_turn_195 rfl (by decide) ?_
              refine Or.inr ⟨⟨by omega, by omega, by omega⟩, rfl, ?_, Fr.sI (Fr.sI hI2.1 (by unfold WGM; omega)) (by unfold WGM; omega)⟩
              rw [Int.toNat_natCast]
              refine ⟨?_, ?_, fun x hx => ?_⟩
              · rw [mI_oth (Or.inr (by decide)), mI_self, hR]; rfl
              · rw [mI_self, hC]; rfl
              · rw [mI_oth (Or.inl (by decide)), mI_oth (Or.inl (by decide)), mI_oth (Or.inl (by decide)), mI_oth (Or.inl (by decide))]
                have hx : x < G.2.1 * G.1 := by have e := t_mul m G.1 G.2.1; have hx2 : x < tR m G.1 G.2.1 * tC m G.1 G.2.1 := hx; rw [e] at hx2; first | exact hx2 | (rw [Nat.mul_comm]; exact hx2)
                exact hI2.2.2 x hx
            · exfalso; omega
          · exfalso; omega
        · rw [decide_eq_false_iff_not] at hc11
          exfalso; omega
  · refine Ex_aload_n d_rm_turn_0 rfl ?_
    refine Ex_getIE d_rm_turn_1 pf_rm_221 rfl (t_38 hs) hG.1 ?_
    refine Ex_if_eqN (G.1) 14 d_rm_turn_4 rfl rfl (by omega) (fun hc4 => ?_) (fun hc4 => ?_)
    · refine Ex_iconst d_rm_turn_14 ic_0 ?_
      refine Ex_zreturn d_rm_turn_15 rfl (by decide) ?_
      exact Or.inl ⟨hok, rfl, rfl⟩
    · refine Ex_iload_n d_rm_turn_7 rfl ?_
      refine Ex_pS1 (v := .int (bI (decide (0 ≤ z ∧ z < 8)))) d_rm_turn_8 pk_rm_turn_137 (rm_isMove_s hz) ?_
      refine Ex_if_neB (decide (0 ≤ z ∧ z < 8)) 16 d_rm_turn_11 rfl rfl (fun hc11 => ?_) (fun hc11 => ?_)
      · rw [decide_eq_true_eq] at hc11
        exfalso; omega
      · rw [decide_eq_false_iff_not] at hc11
        refine Ex_iconst d_rm_turn_14 ic_0 ?_
        refine Ex_zreturn d_rm_turn_15 rfl (by decide) ?_
        exact Or.inl ⟨hok, rfl, rfl⟩
