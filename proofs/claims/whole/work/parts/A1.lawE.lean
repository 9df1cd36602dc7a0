/-! THE LAW: its beginning and its loop. -/
def K_0 : SK := (0, fun _ => 0, fun _ => 0, fun _ => 0, fun _ => false, fun _ => 0)
def P_0 : SP := (0, fun _ => 0, fun _ => 0, fun _ _ => none, 0, fun _ => [], [])
def G_0 : SG := (0, 0, fun _ => none)
def R_0 : SR := (0, fun _ => 0, fun _ => 0, fun _ _ => none)
def F_0 : SF := (0, fun _ => 0, fun _ => 0, fun _ _ => none, fun _ _ => none, fun _ _ => 0, 0)
theorem LX_0 {h : mj_H} (hI : IN 74 lR h) : LX 0 h := by
  have i0 := hI.2.1
  have l0 := hI.2.2.1
  refine ⟨⟨K_0, P_0, G_0, R_0, F_0, fun _ => (0, 0), IN_HT hI, ⟨?_, ⟨?_, ?_, ?_⟩, ?_, ?_, ?_⟩, ⟨?_, ⟨?_, ?_, ?_⟩, ?_, ?_, ?_⟩, ⟨⟨?_, ?_⟩, ?_, ?_, ?_, ?_, ?_⟩⟩, ?_, ?_⟩
  · exact ⟨i0 _ _, fun k _ => ⟨i0 _ _, i0 _ _, i0 _ _, i0 _ _, l0 _ _⟩⟩
  · exact ⟨i0 _ _, fun r hr => absurd hr (Nat.not_lt_zero _)⟩
  · exact ⟨i0 _ _, fun r hr => absurd hr (Nat.not_lt_zero _)⟩
  · exact ⟨i0 _ _, 0, i0 _ _, by decide, fun j hj => absurd hj (Nat.not_lt_zero _)⟩
  · exact ⟨i0 _ _, i0 _ _, fun k hk => absurd hk (Nat.not_lt_zero _)⟩
  · exact ⟨i0 _ _, fun r hr => absurd hr (Nat.not_lt_zero _)⟩
  · exact ⟨i0 _ _, i0 _ _, fun r hr => absurd hr (Nat.not_lt_zero _)⟩
  · exact ⟨i0 _ _, fun k _ => ⟨i0 _ _, i0 _ _, i0 _ _, i0 _ _, l0 _ _⟩⟩
  · exact ⟨i0 _ _, fun r hr => absurd hr (Nat.not_lt_zero _)⟩
  · exact ⟨i0 _ _, fun r hr => absurd hr (Nat.not_lt_zero _)⟩
  · exact ⟨i0 _ _, 0, i0 _ _, by decide, fun j hj => absurd hj (Nat.not_lt_zero _)⟩
  · exact ⟨i0 _ _, i0 _ _, fun k hk => absurd hk (Nat.not_lt_zero _)⟩
  · exact ⟨i0 _ _, fun r hr => absurd hr (Nat.not_lt_zero _)⟩
  · exact ⟨i0 _ _, i0 _ _, fun r hr => absurd hr (Nat.not_lt_zero _)⟩
  · exact ⟨Nat.zero_le _, fun k hk => absurd hk (Nat.not_lt_zero _)⟩
  · exact fun k hk => absurd hk (Nat.not_lt_zero _)
  · exact ⟨Nat.zero_le _, fun r hr => absurd hr (Nat.not_lt_zero _), Nat.zero_le _, fun r hr => absurd hr (Nat.not_lt_zero _), Nat.zero_le _, fun q hq => absurd hq List.not_mem_nil⟩
  · exact ⟨Or.inl ⟨rfl, rfl⟩, fun k hk => absurd hk (Nat.not_lt_zero _)⟩
  · exact ⟨Nat.zero_le _, fun r hr => absurd hr (Nat.not_lt_zero _)⟩
  · exact ⟨Nat.zero_le _, Nat.zero_le _, fun r hr => absurd hr (Nat.not_lt_zero _)⟩
  · exact fun f k hf => absurd hf (Nat.not_lt_zero _)
  · rw [IN_n hI]; decide
  · unfold mZ
    rw [hI.1]
    decide +kernel
abbrev lwQ : Option Value → mj_H → Prop := fun r h' => r = some (.int 1) ∧ mN h' ≤ 600000 ∧ mZ h' ≤ 7302250
theorem law_L {S : mj_S} (hS : S.1 ≤ 3584) : ∀ (d t : Nat) (h : mj_H), t + d = 513 → LX t h → Ex S law 18 [some (.float 0), some (.ref 0), some (.ref 38), some (.int (nI (7 * t)))] [] h lwQ := by
  intro d
  induction d with
  | zero =>
    intro t h htd hX
    refine Ex_iload_n d_law_18 rfl ?_
    refine Ex_aloads_n d_law_19 rfl ?_
    refine Ex_slen rfl d_law_20 ?_
    refine Ex_bipush d_law_21 bp_7 ?_
    refine Ex_isubZ (((S.1 : Nat) : Int)) ((7)) d_law_23 (nIJ _) (by decide) ?_
    refine Ex_icmp_gtZ (((7 * t : Nat) : Int)) ((((S.1 : Nat) : Int)) - ((7))) 1714 d_law_24 rfl (nIJ _) rfl (by omega) (by omega) (fun hc24 => ?_) (fun hc24 => ?_)
    · refine Ex_iconst d_law_1714 ic_1 ?_
      refine Ex_zreturn d_law_1715 rfl (by decide) ?_
      exact ⟨rfl, by have := hX.2.1; omega, by have := hX.2.2; omega⟩
    · exfalso; omega
  | succ d ih =>
    intro t h htd hX
    have kx : ∀ h2, LX (t + 1) h2 → Ex S law 1708 [some (.float 0), some (.ref 0), some (.ref 38), some (.int (nI (7 * t)))] [] h2 lwQ := by
      intro h2 hL
      refine Ex_iincN (7 * t) 7 [some (.float 0), some (.ref 0), some (.ref 38), some (.int (nI ((7 * t) + 7)))] d_law_1708 rfl rfl rfl rfl ?_
      refine Ex_goto 18 d_law_1711 rfl ?_
      exact ih (t + 1) h2 (by omega) hL
    refine Ex_iload_n d_law_18 rfl ?_
    refine Ex_aloads_n d_law_19 rfl ?_
    refine Ex_slen rfl d_law_20 ?_
    refine Ex_bipush d_law_21 bp_7 ?_
    refine Ex_isubZ (((S.1 : Nat) : Int)) ((7)) d_law_23 (nIJ _) (by decide) ?_
    refine Ex_icmp_gtZ (((7 * t : Nat) : Int)) ((((S.1 : Nat) : Int)) - ((7))) 1714 d_law_24 rfl (nIJ _) rfl (by omega) (by omega) (fun hc24 => ?_) (fun hc24 => ?_)
    · refine Ex_iconst d_law_1714 ic_1 ?_
      refine Ex_zreturn d_law_1715 rfl (by decide) ?_
      exact ⟨rfl, by have := hX.2.1; omega, by have := hX.2.2; omega⟩
    · refine Ex_aloads_n d_law_27 rfl ?_
      refine Ex_iload_n d_law_28 rfl ?_
      refine Ex_sloadN (a := 7 * t) rfl d_law_29 rfl (by omega) (by omega) ?_
      refine Ex_bipush d_law_30 bp_63 ?_
      refine Ex_iand d_law_32 ?_
      obtain ⟨z, bz, ez⟩ := J_ex ((S.2 (7 * t)) &&& (63 : Int32))
      rw [ez]
      by_cases hz0 : z = 0
      · rw [hz0]
        refine Ex_swIn 196 d_law_33 (by decide) (by decide) rfl rfl ?_
        exact law_0 hS (by omega) hX kx
      by_cases hz1 : z = 1
      · rw [hz1]
        refine Ex_swIn 307 d_law_33 (by decide) (by decide) rfl rfl ?_
        exact law_1 hS (by omega) hX kx
      by_cases hz2 : z = 2
      · rw [hz2]
        refine Ex_swIn 360 d_law_33 (by decide) (by decide) rfl rfl ?_
        exact law_2 hS (by omega) hX kx
      by_cases hz3 : z = 3
      · rw [hz3]
        refine Ex_swIn 403 d_law_33 (by decide) (by decide) rfl rfl ?_
        exact law_3 hS (by omega) hX kx
      by_cases hz4 : z = 4
      · rw [hz4]
        refine Ex_swIn 436 d_law_33 (by decide) (by decide) rfl rfl ?_
        exact law_4 hS (by omega) hX kx
      by_cases hz5 : z = 5
      · rw [hz5]
        refine Ex_swIn 449 d_law_33 (by decide) (by decide) rfl rfl ?_
        exact law_5 hS (by omega) hX kx
      by_cases hz6 : z = 6
      · rw [hz6]
        refine Ex_swIn 502 d_law_33 (by decide) (by decide) rfl rfl ?_
        exact law_6 hS (by omega) hX kx
      by_cases hz7 : z = 7
      · rw [hz7]
        refine Ex_swIn 535 d_law_33 (by decide) (by decide) rfl rfl ?_
        exact law_7 hS (by omega) hX kx
      by_cases hz8 : z = 8
      · rw [hz8]
        refine Ex_swIn 578 d_law_33 (by decide) (by decide) rfl rfl ?_
        exact law_8 hS (by omega) hX kx
      by_cases hz9 : z = 9
      · rw [hz9]
        refine Ex_swIn 641 d_law_33 (by decide) (by decide) rfl rfl ?_
        exact law_9 hS (by omega) hX kx
      by_cases hz10 : z = 10
      · rw [hz10]
        refine Ex_swIn 694 d_law_33 (by decide) (by decide) rfl rfl ?_
        exact law_10 hS (by omega) hX kx
      by_cases hz11 : z = 11
      · rw [hz11]
        refine Ex_swIn 747 d_law_33 (by decide) (by decide) rfl rfl ?_
        exact law_11 hS (by omega) hX kx
      by_cases hz12 : z = 12
      · rw [hz12]
        refine Ex_swIn 790 d_law_33 (by decide) (by decide) rfl rfl ?_
        exact law_12 hS (by omega) hX kx
      by_cases hz13 : z = 13
      · rw [hz13]
        refine Ex_swIn 843 d_law_33 (by decide) (by decide) rfl rfl ?_
        exact law_13 hS (by omega) hX kx
      by_cases hz14 : z = 14
      · rw [hz14]
        refine Ex_swIn 866 d_law_33 (by decide) (by decide) rfl rfl ?_
        exact law_14 hS (by omega) hX kx
      by_cases hz15 : z = 15
      · rw [hz15]
        refine Ex_swIn 929 d_law_33 (by decide) (by decide) rfl rfl ?_
        exact law_15 hS (by omega) hX kx
      by_cases hz16 : z = 16
      · rw [hz16]
        refine Ex_swIn 952 d_law_33 (by decide) (by decide) rfl rfl ?_
        exact law_16 hS (by omega) hX kx
      by_cases hz17 : z = 17
      · rw [hz17]
        refine Ex_swIn 995 d_law_33 (by decide) (by decide) rfl rfl ?_
        exact law_17 hS (by omega) hX kx
      by_cases hz18 : z = 18
      · rw [hz18]
        refine Ex_swIn 1028 d_law_33 (by decide) (by decide) rfl rfl ?_
        exact law_18 hS (by omega) hX kx
      by_cases hz19 : z = 19
      · rw [hz19]
        refine Ex_swIn 1103 d_law_33 (by decide) (by decide) rfl rfl ?_
        exact law_19 hS (by omega) hX kx
      by_cases hz20 : z = 20
      · rw [hz20]
        refine Ex_swIn 1146 d_law_33 (by decide) (by decide) rfl rfl ?_
        exact law_20 hS (by omega) hX kx
      by_cases hz21 : z = 21
      · rw [hz21]
        refine Ex_swIn 1200 d_law_33 (by decide) (by decide) rfl rfl ?_
        exact law_21 hS (by omega) hX kx
      by_cases hz22 : z = 22
      · rw [hz22]
        refine Ex_swIn 1233 d_law_33 (by decide) (by decide) rfl rfl ?_
        exact law_22 hS (by omega) hX kx
      by_cases hz23 : z = 23
      · rw [hz23]
        refine Ex_swIn 1256 d_law_33 (by decide) (by decide) rfl rfl ?_
        exact law_23 hS (by omega) hX kx
      by_cases hz24 : z = 24
      · rw [hz24]
        refine Ex_swIn 1289 d_law_33 (by decide) (by decide) rfl rfl ?_
        exact law_24 hS (by omega) hX kx
      by_cases hz25 : z = 25
      · rw [hz25]
        refine Ex_swIn 1312 d_law_33 (by decide) (by decide) rfl rfl ?_
        exact law_25 hS (by omega) hX kx
      by_cases hz26 : z = 26
      · rw [hz26]
        refine Ex_swIn 1345 d_law_33 (by decide) (by decide) rfl rfl ?_
        exact law_26 hS (by omega) hX kx
      by_cases hz27 : z = 27
      · rw [hz27]
        refine Ex_swIn 1388 d_law_33 (by decide) (by decide) rfl rfl ?_
        exact law_27 hS (by omega) hX kx
      by_cases hz28 : z = 28
      · rw [hz28]
        refine Ex_swIn 1421 d_law_33 (by decide) (by decide) rfl rfl ?_
        exact law_28 hS (by omega) hX kx
      by_cases hz29 : z = 29
      · rw [hz29]
        refine Ex_swIn 1484 d_law_33 (by decide) (by decide) rfl rfl ?_
        exact law_29 hS (by omega) hX kx
      by_cases hz30 : z = 30
      · rw [hz30]
        refine Ex_swIn 1527 d_law_33 (by decide) (by decide) rfl rfl ?_
        exact law_30 hS (by omega) hX kx
      by_cases hz31 : z = 31
      · rw [hz31]
        refine Ex_swIn 1550 d_law_33 (by decide) (by decide) rfl rfl ?_
        exact law_31 hS (by omega) hX kx
      by_cases hz32 : z = 32
      · rw [hz32]
        refine Ex_swIn 1583 d_law_33 (by decide) (by decide) rfl rfl ?_
        exact law_32 hS (by omega) hX kx
      by_cases hz33 : z = 33
      · rw [hz33]
        refine Ex_swIn 1606 d_law_33 (by decide) (by decide) rfl rfl ?_
        exact law_33 hS (by omega) hX kx
      by_cases hz34 : z = 34
      · rw [hz34]
        refine Ex_swIn 1629 d_law_33 (by decide) (by decide) rfl rfl ?_
        exact law_34 hS (by omega) hX kx
      by_cases hz35 : z = 35
      · rw [hz35]
        refine Ex_swIn 1672 d_law_33 (by decide) (by decide) rfl rfl ?_
        exact law_35 hS (by omega) hX kx
      by_cases hz36 : z = 36
      · rw [hz36]
        refine Ex_swIn 1685 d_law_33 (by decide) (by decide) rfl rfl ?_
        exact law_36 hS (by omega) hX kx
      refine Ex_swOut 1708 d_law_33 (by rw [J_toInt bz.1 bz.2]; omega) rfl ?_
      exact kx h ⟨hX.1, LR_up hX.2⟩
theorem law_s {S : mj_S} (hS : S.1 ≤ 3584) : Ex S law 0 (mj_ent 4 [.float 0]) [] mj_h0 (fun r h' => r = some (.int 1) ∧ mN h' ≤ 600000 ∧ mZ h' ≤ 7302250) := by
  have hI0 : IN 0 [] mj_h0 := ⟨rfl, fun _ _ => rfl, fun _ _ => rfl, fun q hq => absurd hq List.not_mem_nil, by decide⟩
  show Ex S law 0 [some (.float 0), none, none, none] [] mj_h0 lwQ
  refine Ex_new (ci := 10) d_law_0 rfl pc_law_7 ?_
  rw [IN_n hI0]
  have hI1 := IN_new hI0 (show statT[0]? = some (10 + 10, 15) from rfl)
  generalize mNew mj_h0 (10 + 10) 15 = h1 at hI1 ⊢
  refine Ex_dup rfl d_law_3 ?_
  refine Ex_cI0 d_law_4 pk_law_9 (to_init_i hI1) ?_
  rintro rv h2 ⟨rfl, hI2⟩
  show Ex S law 7 [some (.float 0), none, none, none] [.ref 0] h2 _
  refine Ex_astore_n [some (.float 0), some (.ref 0), none, none] d_law_7 (Nat.le_of_ble_eq_true rfl) rfl ?_
  refine Ex_new (ci := 11) d_law_8 rfl pc_law_10 ?_
  rw [IN_n hI2]
  have hI3 := IN_new hI2 (show statT[38]? = some (10 + 11, 55) from rfl)
  generalize mNew h2 (10 + 11) 55 = h3 at hI3 ⊢
  refine Ex_dup rfl d_law_11 ?_
  refine Ex_cI0 d_law_12 pk_law_12 (rm_init_i hI3) ?_
  rintro rv h4 ⟨rfl, hI4⟩
  show Ex S law 15 [some (.float 0), some (.ref 0), none, none] [.ref 38] h4 _
  refine Ex_astore_n [some (.float 0), some (.ref 0), some (.ref 38), none] d_law_15 (Nat.le_of_ble_eq_true rfl) rfl ?_
  refine Ex_iconst d_law_16 ic_0 ?_
  refine Ex_istore_n [some (.float 0), some (.ref 0), some (.ref 38), some (.int (0))] d_law_17 (Nat.le_of_ble_eq_true rfl) rfl ?_
  exact law_L hS 513 0 _ rfl (LX_0 hI4)
