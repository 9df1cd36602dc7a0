/-! Constants, and truth values as ints. -/
def bI (c : Bool) : Int32 := if c = true then 1 else 0
theorem bI_01 (c : Bool) : bI c = 0 ∨ bI c = 1 := by cases c <;> simp [bI]
theorem bI_t : bI true = 1 := rfl
theorem bI_f : bI false = 0 := rfl
section MJBo
variable {S : mj_S} {μ : mj_Y} {pc : Nat} {ls : mj_L} {st : List Value} {h : mj_H} {Q : Option Value → mj_H → Prop} {x : Int32}
theorem Ex_if_eqB (c : Bool) {off : Int} (tgt : Nat) (hd : decode μ.2.1 pc = .ok (.ifCond .eq off, 3)) (ht : (pc : Int) + off = (tgt : Int)) (hx : x = bI c) (kt : c = false → Ex S μ tgt ls st h Q) (kf : c = true → Ex S μ (pc + 3) ls st h Q) : Ex S μ pc ls (.int x :: st) h Q := by
  subst hx
  cases c
  · exact Ex_if_eq tgt hd ht (fun _ => kt rfl) (fun q => absurd rfl q)
  · exact Ex_if_eq tgt hd ht (fun q => absurd q (by decide)) (fun _ => kf rfl)
theorem Ex_if_neB (c : Bool) {off : Int} (tgt : Nat) (hd : decode μ.2.1 pc = .ok (.ifCond .ne off, 3)) (ht : (pc : Int) + off = (tgt : Int)) (hx : x = bI c) (kt : c = true → Ex S μ tgt ls st h Q) (kf : c = false → Ex S μ (pc + 3) ls st h Q) : Ex S μ pc ls (.int x :: st) h Q := by
  subst hx
  cases c
  · exact Ex_if_ne tgt hd ht (fun q => absurd rfl q) (fun _ => kf rfl)
  · exact Ex_if_ne tgt hd ht (fun _ => kt rfl) (fun q => absurd q (by decide))
end MJBo
theorem ic_0 : Int32.ofInt (0) = 0 := by decide
theorem ic_1 : Int32.ofInt (1) = 1 := by decide
theorem bp_20 : (Int8.ofInt (20)).toInt32 = 20 := by decide
theorem bp_m2 : (Int8.ofInt (-2)).toInt32 = (-2) := by decide
theorem ic_4 : Int32.ofInt (4) = 4 := by decide
theorem ic_3 : Int32.ofInt (3) = 3 := by decide
theorem bp_64 : (Int8.ofInt (64)).toInt32 = 64 := by decide
theorem sp_256 : (Int16.ofInt (256)).toInt32 = 256 := by decide
theorem bp_40 : (Int8.ofInt (40)).toInt32 = 40 := by decide
theorem ic_5 : Int32.ofInt (5) = 5 := by decide
theorem ic_m1 : Int32.ofInt (-1) = (-1) := by decide
theorem bp_16 : (Int8.ofInt (16)).toInt32 = 16 := by decide
theorem bp_8 : (Int8.ofInt (8)).toInt32 = 8 := by decide
theorem ic_2 : Int32.ofInt (2) = 2 := by decide
theorem bp_6 : (Int8.ofInt (6)).toInt32 = 6 := by decide
theorem bp_63 : (Int8.ofInt (63)).toInt32 = 63 := by decide
theorem bp_19 : (Int8.ofInt (19)).toInt32 = 19 := by decide
theorem bp_7 : (Int8.ofInt (7)).toInt32 = 7 := by decide
theorem sp_320 : (Int16.ofInt (320)).toInt32 = 320 := by decide
theorem sp_340 : (Int16.ofInt (340)).toInt32 = 340 := by decide
theorem bp_17 : (Int8.ofInt (17)).toInt32 = 17 := by decide
theorem sp_2400 : (Int16.ofInt (2400)).toInt32 = 2400 := by decide
theorem bp_60 : (Int8.ofInt (60)).toInt32 = 60 := by decide
theorem bp_39 : (Int8.ofInt (39)).toInt32 = 39 := by decide
theorem bp_56 : (Int8.ofInt (56)).toInt32 = 56 := by decide
theorem sp_1000 : (Int16.ofInt (1000)).toInt32 = 1000 := by decide
theorem sp_255 : (Int16.ofInt (255)).toInt32 = 255 := by decide
theorem bp_15 : (Int8.ofInt (15)).toInt32 = 15 := by decide
theorem sp_6000 : (Int16.ofInt (6000)).toInt32 = 6000 := by decide
theorem bp_m30 : (Int8.ofInt (-30)).toInt32 = (-30) := by decide
theorem bp_30 : (Int8.ofInt (30)).toInt32 = 30 := by decide
theorem sp_640 : (Int16.ofInt (640)).toInt32 = 640 := by decide
theorem bp_m3 : (Int8.ofInt (-3)).toInt32 = (-3) := by decide
theorem sp_30000 : (Int16.ofInt (30000)).toInt32 = 30000 := by decide
theorem sp_400 : (Int16.ofInt (400)).toInt32 = 400 := by decide
theorem sp_3600 : (Int16.ofInt (3600)).toInt32 = 3600 := by decide
theorem bp_10 : (Int8.ofInt (10)).toInt32 = 10 := by decide
theorem bp_99 : (Int8.ofInt (99)).toInt32 = 99 := by decide
theorem sp_960 : (Int16.ofInt (960)).toInt32 = 960 := by decide
theorem sp_5120 : (Int16.ofInt (5120)).toInt32 = 5120 := by decide
theorem sp_7200 : (Int16.ofInt (7200)).toInt32 = 7200 := by decide
theorem bp_120 : (Int8.ofInt (120)).toInt32 = 120 := by decide
theorem sp_384 : (Int16.ofInt (384)).toInt32 = 384 := by decide
theorem sp_240 : (Int16.ofInt (240)).toInt32 = 240 := by decide
theorem bp_65 : (Int8.ofInt (65)).toInt32 = 65 := by decide
theorem sp_4369 : (Int16.ofInt (4369)).toInt32 = 4369 := by decide
theorem bp_32 : (Int8.ofInt (32)).toInt32 = 32 := by decide
theorem bp_127 : (Int8.ofInt (127)).toInt32 = 127 := by decide
theorem lc_0 : Int64.ofNat ((0 : Fin 2) : Nat) = 0 := by decide
theorem lc_1 : Int64.ofNat ((1 : Fin 2) : Nat) = 1 := by decide
