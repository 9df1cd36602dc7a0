/-! Longs as whole numbers. -/
def JL (z : Int) : Int64 := Int64.ofInt z
theorem JL_add (a b : Int) : JL a + JL b = JL (a + b) := by simp [JL]
theorem JL_sub (a b : Int) : JL a - JL b = JL (a - b) := by simp [JL]
theorem JL_toInt {z : Int} (h1 : -9223372036854775808 ≤ z) (h2 : z < 9223372036854775808) : (JL z).toInt = z := by
  unfold JL
  rw [Int64.toInt_ofInt, show Int64.size = 18446744073709551616 from rfl]
  exact Int.bmod_eq_of_le (by omega) (by omega)
theorem JL_of (x : Int64) : x = JL x.toInt := by simp [JL]
theorem JL_lt {a b : Int} (h1 : -9223372036854775808 ≤ a) (h2 : a < 9223372036854775808) (h3 : -9223372036854775808 ≤ b) (h4 : b < 9223372036854775808) : JL a < JL b ↔ a < b := by
  rw [Int64.lt_iff_toInt_lt, JL_toInt h1 h2, JL_toInt h3 h4]
theorem JL_inj {a b : Int} (h1 : -9223372036854775808 ≤ a) (h2 : a < 9223372036854775808) (h3 : -9223372036854775808 ≤ b) (h4 : b < 9223372036854775808) : JL a = JL b ↔ a = b := by
  constructor
  · intro h
    have := congrArg Int64.toInt h
    rwa [JL_toInt h1 h2, JL_toInt h3 h4] at this
  · rintro rfl; rfl
theorem J_long {z : Int} (h1 : -2147483648 ≤ z) (h2 : z < 2147483648) : (J z).toInt64 = JL z := by
  apply Int64.toInt_inj.mp
  rw [JL_toInt (by omega) (by omega), Int32.toInt_toInt64, J_toInt h1 h2]
theorem JL_int {z : Int} (h1 : -2147483648 ≤ z) (h2 : z < 2147483648) : (JL z).toInt32 = J z := by
  apply Int32.toInt_inj.mp
  rw [J_toInt h1 h2, Int64.toInt_toInt32, JL_toInt (by omega) (by omega)]
  exact Int.bmod_eq_of_le (by omega) (by omega)
section MJL
variable {S : mj_S} {μ : mj_Y} {pc : Nat} {ls : mj_L} {st : List Value} {h : mj_H} {Q : Option Value → mj_H → Prop} {x : Int32} {v w : Int64}
theorem Ex_i2lZ (a : Int) (hd : decode μ.2.1 pc = .ok (.i2l, 1)) (hx : x = J a) (ha : -2147483648 ≤ a ∧ a < 2147483648) (k : Ex S μ (pc + 1) ls (.long (JL a) :: st) h Q) : Ex S μ pc ls (.int x :: st) h Q := by
  subst hx; exact Ex_i2l hd (by rw [J_long ha.1 ha.2]; exact k)
theorem Ex_l2iZ (a : Int) (hd : decode μ.2.1 pc = .ok (.l2i, 1)) (hx : v = JL a) (ha : -2147483648 ≤ a ∧ a < 2147483648) (k : Ex S μ (pc + 1) ls (.int (J a) :: st) h Q) : Ex S μ pc ls (.long v :: st) h Q := by
  subst hx; exact Ex_l2i hd (by rw [JL_int ha.1 ha.2]; exact k)
theorem Ex_laddZ (a b : Int) (hd : decode μ.2.1 pc = .ok (.ladd, 1)) (hx : v = JL a) (hy : w = JL b) (k : Ex S μ (pc + 1) ls (.long (JL (a + b)) :: st) h Q) : Ex S μ pc ls (.long w :: .long v :: st) h Q := by
  subst hx hy; exact Ex_ladd hd (by rw [JL_add]; exact k)
theorem Ex_lsubZ (a b : Int) (hd : decode μ.2.1 pc = .ok (.lsub, 1)) (hx : v = JL a) (hy : w = JL b) (k : Ex S μ (pc + 1) ls (.long (JL (a - b)) :: st) h Q) : Ex S μ pc ls (.long w :: .long v :: st) h Q := by
  subst hx hy; exact Ex_lsub hd (by rw [JL_sub]; exact k)
theorem Ex_if_eqLZ (a b : Int) {off : Int} (tgt : Nat) (hd : decode μ.2.1 pc = .ok (.ifCond .eq off, 3)) (ht : (pc : Int) + off = (tgt : Int)) (hx : v = JL a) (hy : w = JL b) (ha : -9223372036854775808 ≤ a ∧ a < 9223372036854775808) (hb : -9223372036854775808 ≤ b ∧ b < 9223372036854775808) (kt : a = b → Ex S μ tgt ls st h Q) (kf : ¬ a = b → Ex S μ (pc + 3) ls st h Q) : Ex S μ pc ls (.int (lg_cmp v w) :: st) h Q := by
  subst hx hy
  exact Ex_if_eqL tgt hd ht (fun q => kt ((JL_inj ha.1 ha.2 hb.1 hb.2).mp q)) (fun q => kf (fun z => q ((JL_inj ha.1 ha.2 hb.1 hb.2).mpr z)))
theorem Ex_if_neLZ (a b : Int) {off : Int} (tgt : Nat) (hd : decode μ.2.1 pc = .ok (.ifCond .ne off, 3)) (ht : (pc : Int) + off = (tgt : Int)) (hx : v = JL a) (hy : w = JL b) (ha : -9223372036854775808 ≤ a ∧ a < 9223372036854775808) (hb : -9223372036854775808 ≤ b ∧ b < 9223372036854775808) (kt : ¬ a = b → Ex S μ tgt ls st h Q) (kf : a = b → Ex S μ (pc + 3) ls st h Q) : Ex S μ pc ls (.int (lg_cmp v w) :: st) h Q := by
  subst hx hy
  exact Ex_if_neL tgt hd ht (fun q => kt (fun z => q ((JL_inj ha.1 ha.2 hb.1 hb.2).mpr z))) (fun q => kf ((JL_inj ha.1 ha.2 hb.1 hb.2).mp q))
theorem Ex_if_ltLZ (a b : Int) {off : Int} (tgt : Nat) (hd : decode μ.2.1 pc = .ok (.ifCond .lt off, 3)) (ht : (pc : Int) + off = (tgt : Int)) (hx : v = JL a) (hy : w = JL b) (ha : -9223372036854775808 ≤ a ∧ a < 9223372036854775808) (hb : -9223372036854775808 ≤ b ∧ b < 9223372036854775808) (kt : a < b → Ex S μ tgt ls st h Q) (kf : b ≤ a → Ex S μ (pc + 3) ls st h Q) : Ex S μ pc ls (.int (lg_cmp v w) :: st) h Q := by
  subst hx hy
  exact Ex_if_ltL tgt hd ht (fun q => kt ((JL_lt ha.1 ha.2 hb.1 hb.2).mp q)) (fun q => kf (Int.not_lt.mp (fun z => q ((JL_lt ha.1 ha.2 hb.1 hb.2).mpr z))))
theorem Ex_if_geLZ (a b : Int) {off : Int} (tgt : Nat) (hd : decode μ.2.1 pc = .ok (.ifCond .ge off, 3)) (ht : (pc : Int) + off = (tgt : Int)) (hx : v = JL a) (hy : w = JL b) (ha : -9223372036854775808 ≤ a ∧ a < 9223372036854775808) (hb : -9223372036854775808 ≤ b ∧ b < 9223372036854775808) (kt : b ≤ a → Ex S μ tgt ls st h Q) (kf : a < b → Ex S μ (pc + 3) ls st h Q) : Ex S μ pc ls (.int (lg_cmp v w) :: st) h Q := by
  subst hx hy
  exact Ex_if_geL tgt hd ht (fun q => kt (Int.not_lt.mp (fun z => q ((JL_lt ha.1 ha.2 hb.1 hb.2).mpr z)))) (fun q => kf ((JL_lt ha.1 ha.2 hb.1 hb.2).mp q))
theorem Ex_if_gtLZ (a b : Int) {off : Int} (tgt : Nat) (hd : decode μ.2.1 pc = .ok (.ifCond .gt off, 3)) (ht : (pc : Int) + off = (tgt : Int)) (hx : v = JL a) (hy : w = JL b) (ha : -9223372036854775808 ≤ a ∧ a < 9223372036854775808) (hb : -9223372036854775808 ≤ b ∧ b < 9223372036854775808) (kt : b < a → Ex S μ tgt ls st h Q) (kf : a ≤ b → Ex S μ (pc + 3) ls st h Q) : Ex S μ pc ls (.int (lg_cmp v w) :: st) h Q := by
  subst hx hy
  exact Ex_if_gtL tgt hd ht (fun q => kt ((JL_lt hb.1 hb.2 ha.1 ha.2).mp q)) (fun q => kf (Int.not_lt.mp (fun z => q ((JL_lt hb.1 hb.2 ha.1 ha.2).mpr z))))
theorem Ex_if_leLZ (a b : Int) {off : Int} (tgt : Nat) (hd : decode μ.2.1 pc = .ok (.ifCond .le off, 3)) (ht : (pc : Int) + off = (tgt : Int)) (hx : v = JL a) (hy : w = JL b) (ha : -9223372036854775808 ≤ a ∧ a < 9223372036854775808) (hb : -9223372036854775808 ≤ b ∧ b < 9223372036854775808) (kt : a ≤ b → Ex S μ tgt ls st h Q) (kf : b < a → Ex S μ (pc + 3) ls st h Q) : Ex S μ pc ls (.int (lg_cmp v w) :: st) h Q := by
  subst hx hy
  exact Ex_if_leL tgt hd ht (fun q => kt (Int.not_lt.mp (fun z => q ((JL_lt hb.1 hb.2 ha.1 ha.2).mpr z)))) (fun q => kf ((JL_lt hb.1 hb.2 ha.1 ha.2).mp q))
end MJL
