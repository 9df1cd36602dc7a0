/-! Numbers: nI n, J z, and the rows of the small machine over them. -/
def J (z : Int) : Int32 := Int32.ofInt z
theorem nI_mul (a b : Nat) : nI a * nI b = nI (a * b) := by simp [nI]
theorem nIJ (a : Nat) : nI a = J (a : Int) := by
  apply Int32.toBitVec_inj.mp
  show BitVec.ofNat 32 a = BitVec.ofInt 32 (a : Int)
  simp
theorem J_add (a b : Int) : J a + J b = J (a + b) := by simp [J]
theorem J_sub (a b : Int) : J a - J b = J (a - b) := by simp [J]
theorem J_mul (a b : Int) : J a * J b = J (a * b) := by simp [J]
theorem J_neg (a : Int) : - J a = J (- a) := by simp [J]
theorem nI_sub {a b : Nat} (h : b ≤ a) : nI a - nI b = nI (a - b) := by
  rw [nIJ, nIJ, nIJ, J_sub]
  congr 1
  omega
theorem J_toInt {z : Int} (h1 : -2147483648 ≤ z) (h2 : z < 2147483648) : (J z).toInt = z := by
  unfold J
  rw [Int32.toInt_ofInt, show Int32.size = 4294967296 from rfl]
  exact Int.bmod_eq_of_le (by omega) (by omega)
theorem nI_nat {a : Nat} (h : a < 2147483648) : (nI a).toNatClampNeg = a := by
  show ((nI a).toInt).toNat = a
  rw [nI_toInt h]; rfl
theorem J_nat {z : Int} (h1 : -2147483648 ≤ z) (h2 : z < 2147483648) : (J z).toNatClampNeg = z.toNat := by
  show ((J z).toInt).toNat = _
  rw [J_toInt h1 h2]
theorem J_of (x : Int32) : x = J x.toInt := by simp [J]
theorem J_lt {a b : Int} (h1 : -2147483648 ≤ a) (h2 : a < 2147483648) (h3 : -2147483648 ≤ b) (h4 : b < 2147483648) : J a < J b ↔ a < b := by
  rw [Int32.lt_iff_toInt_lt, J_toInt h1 h2, J_toInt h3 h4]
theorem J_le {a b : Int} (h1 : -2147483648 ≤ a) (h2 : a < 2147483648) (h3 : -2147483648 ≤ b) (h4 : b < 2147483648) : J a ≤ J b ↔ a ≤ b := by
  rw [Int32.le_iff_toInt_le, J_toInt h1 h2, J_toInt h3 h4]
theorem J_inj {a b : Int} (h1 : -2147483648 ≤ a) (h2 : a < 2147483648) (h3 : -2147483648 ≤ b) (h4 : b < 2147483648) : J a = J b ↔ a = b := by
  constructor
  · intro h
    have := congrArg Int32.toInt h
    rwa [J_toInt h1 h2, J_toInt h3 h4] at this
  · rintro rfl; rfl
theorem in_nI {k n : Nat} (h : k < n) (hn : n ≤ 2147483648) : vp_in (nI k) n := by
  intro z
  rcases z with z | z
  · have : nI k < nI 0 := z
    rw [nI_ltI (by omega) (by omega)] at this
    omega
  · rw [nI_nat (by omega)] at z; omega
/-- an int is below 0, or a number beyond n, or one below it -/
theorem i32_nat (x : Int32) (h : ¬ x < 0) : ∃ a : Nat, a < 2147483648 ∧ x = nI a := by
  have h0 : 0 ≤ x.toInt := by
    have := Int32.not_lt.mp h
    simpa using Int32.le_iff_toInt_le.mp this
  have h1 := x.toInt_lt
  exact ⟨x.toInt.toNat, by omega, by rw [nIJ]; rw [show ((x.toInt.toNat : Nat) : Int) = x.toInt by omega]; exact J_of x⟩
theorem nI_nonneg {a : Nat} (h : a < 2147483648) : ¬ nI a < 0 := by
  intro z
  have : nI a < nI 0 := z
  rw [nI_ltI h (by omega)] at this
  omega
theorem i32_J (x : Int32) : ∃ z : Int, -2147483648 ≤ z ∧ z < 2147483648 ∧ x = J z := ⟨x.toInt, x.le_toInt, x.toInt_lt, J_of x⟩
section MJZ
variable {S : mj_S} {μ : mj_Y} {pc : Nat} {ls : mj_L} {st : List Value} {h : mj_H} {Q : Option Value → mj_H → Prop} {x y : Int32} {a b : Nat}
theorem Ex_iaddN (a b : Nat) (hd : decode μ.2.1 pc = .ok (.iadd, 1)) (hx : x = nI a) (hy : y = nI b) (k : Ex S μ (pc + 1) ls (.int (nI (a + b)) :: st) h Q) : Ex S μ pc ls (.int y :: .int x :: st) h Q := by
  subst hx hy; exact Ex_iadd hd (by rw [nI_add]; exact k)
theorem Ex_imulN (a b : Nat) (hd : decode μ.2.1 pc = .ok (.imul, 1)) (hx : x = nI a) (hy : y = nI b) (k : Ex S μ (pc + 1) ls (.int (nI (a * b)) :: st) h Q) : Ex S μ pc ls (.int y :: .int x :: st) h Q := by
  subst hx hy; exact Ex_imul hd (by rw [nI_mul]; exact k)
theorem Ex_isubN (a b : Nat) (hd : decode μ.2.1 pc = .ok (.isub, 1)) (hx : x = nI a) (hy : y = nI b) (hab : b ≤ a) (k : Ex S μ (pc + 1) ls (.int (nI (a - b)) :: st) h Q) : Ex S μ pc ls (.int y :: .int x :: st) h Q := by
  subst hx hy; exact Ex_isub hd (by rw [nI_sub hab]; exact k)
theorem nI_div {a b : Nat} (h1 : a < 2147483648) (h2 : b < 2147483648) : nI a / nI b = nI (a / b) := by
  have hq : a / b < 2147483648 := Nat.lt_of_le_of_lt (Nat.div_le_self a b) h1
  apply Int32.toInt_inj.mp
  rw [Int32.toInt_div, nI_toInt h1, nI_toInt h2, nI_toInt hq]
  rw [show ((a : Int).tdiv (b : Int)) = ((a / b : Nat) : Int) from by rw [Int.tdiv_eq_ediv_of_nonneg (by omega)]; rfl]
  generalize a / b = q at hq ⊢
  exact Int.bmod_eq_of_le (by omega) (by omega)
theorem Ex_idivN (a b : Nat) (hd : decode μ.2.1 pc = .ok (.idiv, 1)) (hx : x = nI a) (hy : y = nI b) (ha : a < 2147483648) (hb : 0 < b ∧ b < 2147483648) (k : Ex S μ (pc + 1) ls (.int (nI (a / b)) :: st) h Q) : Ex S μ pc ls (.int y :: .int x :: st) h Q := by
  subst hx hy
  exact Ex_idiv hd (fun z => by have := (nI_eq hb.2 (b := 0) (by omega)).mp z; omega) (by rw [nI_div ha hb.2]; exact k)
theorem Ex_iremN (a b : Nat) (hd : decode μ.2.1 pc = .ok (.irem, 1)) (hx : x = nI a) (hy : y = nI b) (ha : a < 2147483648) (hb : 0 < b ∧ b < 2147483648) (k : Ex S μ (pc + 1) ls (.int (nI (a % b)) :: st) h Q) : Ex S μ pc ls (.int y :: .int x :: st) h Q := by
  subst hx hy
  have hm : a / b * b ≤ a := Nat.div_mul_le_self a b
  refine Ex_irem hd (fun z => by have := (nI_eq hb.2 (b := 0) (by omega)).mp z; omega) ?_
  rw [nI_div ha hb.2, nI_mul, nI_sub hm, show a - a / b * b = a % b by have := Nat.div_add_mod a b; rw [Nat.mul_comm] at this; omega]
  exact k
theorem Ex_iaddZ (a b : Int) (hd : decode μ.2.1 pc = .ok (.iadd, 1)) (hx : x = J a) (hy : y = J b) (k : Ex S μ (pc + 1) ls (.int (J (a + b)) :: st) h Q) : Ex S μ pc ls (.int y :: .int x :: st) h Q := by
  subst hx hy; exact Ex_iadd hd (by rw [J_add]; exact k)
theorem Ex_isubZ (a b : Int) (hd : decode μ.2.1 pc = .ok (.isub, 1)) (hx : x = J a) (hy : y = J b) (k : Ex S μ (pc + 1) ls (.int (J (a - b)) :: st) h Q) : Ex S μ pc ls (.int y :: .int x :: st) h Q := by
  subst hx hy; exact Ex_isub hd (by rw [J_sub]; exact k)
theorem Ex_imulZ (a b : Int) (hd : decode μ.2.1 pc = .ok (.imul, 1)) (hx : x = J a) (hy : y = J b) (k : Ex S μ (pc + 1) ls (.int (J (a * b)) :: st) h Q) : Ex S μ pc ls (.int y :: .int x :: st) h Q := by
  subst hx hy; exact Ex_imul hd (by rw [J_mul]; exact k)
theorem Ex_ialoadN {n m : Nat} (hd : decode μ.2.1 pc = .ok (.iaload, 1)) (ht : mT h m = some (0, n)) (hi : x = nI a) (hk : a < n) (hn : n ≤ 2147483648) (hv : mI h m a = y) (k : Ex S μ (pc + 1) ls (.int y :: st) h Q) : Ex S μ pc ls (.int x :: .ref m :: st) h Q := by
  subst hi hv; exact Ex_iaload hd ht (in_nI hk hn) (by rw [nI_nat (by omega)]; exact k)
theorem Ex_baloadN {n m : Nat} (hd : decode μ.2.1 pc = .ok (.baload, 1)) (ht : mT h m = some (2, n)) (hi : x = nI a) (hk : a < n) (hn : n ≤ 2147483648) (hv : mI h m a = y) (k : Ex S μ (pc + 1) ls (.int y :: st) h Q) : Ex S μ pc ls (.int x :: .ref m :: st) h Q := by
  subst hi hv; exact Ex_baload hd ht (in_nI hk hn) (by rw [nI_nat (by omega)]; exact k)
theorem Ex_laloadN {n m : Nat} {w : Int64} (hd : decode μ.2.1 pc = .ok (.laload, 1)) (ht : mT h m = some (1, n)) (hi : x = nI a) (hk : a < n) (hn : n ≤ 2147483648) (hv : mL h m a = w) (k : Ex S μ (pc + 1) ls (.long w :: st) h Q) : Ex S μ pc ls (.int x :: .ref m :: st) h Q := by
  subst hi hv; exact Ex_laload hd ht (in_nI hk hn) (by rw [nI_nat (by omega)]; exact k)
theorem Ex_aaloadN {n m t : Nat} {v : Value} (hd : decode μ.2.1 pc = .ok (.aaload, 1)) (ht : mT h m = some (t, n)) (htt : 3 ≤ t ∧ t ≤ 6) (hi : x = nI a) (hk : a < n) (hn : n ≤ 2147483648) (hv : va_rf (mR h m a) = v) (k : Ex S μ (pc + 1) ls (v :: st) h Q) : Ex S μ pc ls (.int x :: .ref m :: st) h Q := by
  subst hi hv; exact Ex_aaload hd ht htt (in_nI hk hn) (by rw [nI_nat (by omega)]) k
theorem Ex_iastoreN {n m : Nat} (hd : decode μ.2.1 pc = .ok (.iastore, 1)) (ht : mT h m = some (0, n)) (hi : x = nI a) (hk : a < n) (hn : n ≤ 2147483648) (k : Ex S μ (pc + 1) ls st (wI h m a y) Q) : Ex S μ pc ls (.int y :: .int x :: .ref m :: st) h Q := by
  subst hi; exact Ex_iastore hd ht (in_nI hk hn) (by rw [nI_nat (by omega)]; exact k)
theorem Ex_bastoreN {n m : Nat} (hd : decode μ.2.1 pc = .ok (.bastore, 1)) (ht : mT h m = some (2, n)) (hi : x = nI a) (hk : a < n) (hn : n ≤ 2147483648) (hx : y = 0 ∨ y = 1) (k : Ex S μ (pc + 1) ls st (wI h m a y) Q) : Ex S μ pc ls (.int y :: .int x :: .ref m :: st) h Q := by
  subst hi; exact Ex_bastore hd ht (in_nI hk hn) hx (by rw [nI_nat (by omega)]; exact k)
theorem Ex_lastoreN {n m : Nat} {w : Int64} (hd : decode μ.2.1 pc = .ok (.lastore, 1)) (ht : mT h m = some (1, n)) (hi : x = nI a) (hk : a < n) (hn : n ≤ 2147483648) (k : Ex S μ (pc + 1) ls st (wL h m a w) Q) : Ex S μ pc ls (.long w :: .int x :: .ref m :: st) h Q := by
  subst hi; exact Ex_lastore hd ht (in_nI hk hn) (by rw [nI_nat (by omega)]; exact k)
theorem Ex_iincN {j : Nat} {n : Int} (a c : Nat) (ls' : mj_L) (hd : decode μ.2.1 pc = .ok (.iinc j n, 3)) (hl : ls[j]? = some (some (.int x))) (hx : x = nI a) (hc : Int32.ofInt n = nI c) (he : mj_st1 ls j (.int (nI (a + c))) = ls') (k : Ex S μ (pc + 3) ls' st h Q) : Ex S μ pc ls st h Q := by
  subst hx; exact Ex_iinc (nI c) ls' hd hl hc (by rw [nI_add]; exact he) k
theorem Ex_icmp_eqN (a b : Nat) {off : Int} (tgt : Nat) (hd : decode μ.2.1 pc = .ok (.if_icmp .eq off, 3)) (ht : (pc : Int) + off = (tgt : Int)) (hx : x = nI a) (hy : y = nI b) (ha : a < 2147483648) (hb : b < 2147483648) (kt : a = b → Ex S μ tgt ls st h Q) (kf : ¬ a = b → Ex S μ (pc + 3) ls st h Q) : Ex S μ pc ls (.int y :: .int x :: st) h Q := by
  subst hx hy; exact Ex_icmp_eq tgt hd ht (fun q => kt ((nI_eq ha hb).mp q)) (fun q => kf (fun z => q ((nI_eq ha hb).mpr z)))
theorem Ex_icmp_eqZ (a b : Int) {off : Int} (tgt : Nat) (hd : decode μ.2.1 pc = .ok (.if_icmp .eq off, 3)) (ht : (pc : Int) + off = (tgt : Int)) (hx : x = J a) (hy : y = J b) (ha : -2147483648 ≤ a ∧ a < 2147483648) (hb : -2147483648 ≤ b ∧ b < 2147483648) (kt : a = b → Ex S μ tgt ls st h Q) (kf : ¬ a = b → Ex S μ (pc + 3) ls st h Q) : Ex S μ pc ls (.int y :: .int x :: st) h Q := by
  subst hx hy; exact Ex_icmp_eq tgt hd ht (fun q => kt ((J_inj ha.1 ha.2 hb.1 hb.2).mp q)) (fun q => kf (fun z => q ((J_inj ha.1 ha.2 hb.1 hb.2).mpr z)))
theorem Ex_if_eqN (a : Nat) {off : Int} (tgt : Nat) (hd : decode μ.2.1 pc = .ok (.ifCond .eq off, 3)) (ht : (pc : Int) + off = (tgt : Int)) (hx : x = nI a) (ha : a < 2147483648) (kt : a = 0 → Ex S μ tgt ls st h Q) (kf : ¬ a = 0 → Ex S μ (pc + 3) ls st h Q) : Ex S μ pc ls (.int x :: st) h Q := by
  subst hx; exact Ex_if_eq tgt hd ht (fun q => kt ((nI_eq (b := 0) ha (by omega)).mp q)) (fun q => kf (fun z => q ((nI_eq (b := 0) ha (by omega)).mpr z)))
theorem Ex_if_eqZ (a : Int) {off : Int} (tgt : Nat) (hd : decode μ.2.1 pc = .ok (.ifCond .eq off, 3)) (ht : (pc : Int) + off = (tgt : Int)) (hx : x = J a) (ha : -2147483648 ≤ a ∧ a < 2147483648) (kt : a = 0 → Ex S μ tgt ls st h Q) (kf : ¬ a = 0 → Ex S μ (pc + 3) ls st h Q) : Ex S μ pc ls (.int x :: st) h Q := by
  subst hx; exact Ex_if_eq tgt hd ht (fun q => kt ((J_inj (b := 0) ha.1 ha.2 (by omega) (by omega)).mp q)) (fun q => kf (fun z => q ((J_inj (b := 0) ha.1 ha.2 (by omega) (by omega)).mpr z)))
theorem Ex_icmp_neN (a b : Nat) {off : Int} (tgt : Nat) (hd : decode μ.2.1 pc = .ok (.if_icmp .ne off, 3)) (ht : (pc : Int) + off = (tgt : Int)) (hx : x = nI a) (hy : y = nI b) (ha : a < 2147483648) (hb : b < 2147483648) (kt : ¬ a = b → Ex S μ tgt ls st h Q) (kf : a = b → Ex S μ (pc + 3) ls st h Q) : Ex S μ pc ls (.int y :: .int x :: st) h Q := by
  subst hx hy; exact Ex_icmp_ne tgt hd ht (fun q => kt (fun z => q ((nI_eq ha hb).mpr z))) (fun q => kf ((nI_eq ha hb).mp q))
theorem Ex_icmp_neZ (a b : Int) {off : Int} (tgt : Nat) (hd : decode μ.2.1 pc = .ok (.if_icmp .ne off, 3)) (ht : (pc : Int) + off = (tgt : Int)) (hx : x = J a) (hy : y = J b) (ha : -2147483648 ≤ a ∧ a < 2147483648) (hb : -2147483648 ≤ b ∧ b < 2147483648) (kt : ¬ a = b → Ex S μ tgt ls st h Q) (kf : a = b → Ex S μ (pc + 3) ls st h Q) : Ex S μ pc ls (.int y :: .int x :: st) h Q := by
  subst hx hy; exact Ex_icmp_ne tgt hd ht (fun q => kt (fun z => q ((J_inj ha.1 ha.2 hb.1 hb.2).mpr z))) (fun q => kf ((J_inj ha.1 ha.2 hb.1 hb.2).mp q))
theorem Ex_if_neN (a : Nat) {off : Int} (tgt : Nat) (hd : decode μ.2.1 pc = .ok (.ifCond .ne off, 3)) (ht : (pc : Int) + off = (tgt : Int)) (hx : x = nI a) (ha : a < 2147483648) (kt : ¬ a = 0 → Ex S μ tgt ls st h Q) (kf : a = 0 → Ex S μ (pc + 3) ls st h Q) : Ex S μ pc ls (.int x :: st) h Q := by
  subst hx; exact Ex_if_ne tgt hd ht (fun q => kt (fun z => q ((nI_eq (b := 0) ha (by omega)).mpr z))) (fun q => kf ((nI_eq (b := 0) ha (by omega)).mp q))
theorem Ex_if_neZ (a : Int) {off : Int} (tgt : Nat) (hd : decode μ.2.1 pc = .ok (.ifCond .ne off, 3)) (ht : (pc : Int) + off = (tgt : Int)) (hx : x = J a) (ha : -2147483648 ≤ a ∧ a < 2147483648) (kt : ¬ a = 0 → Ex S μ tgt ls st h Q) (kf : a = 0 → Ex S μ (pc + 3) ls st h Q) : Ex S μ pc ls (.int x :: st) h Q := by
  subst hx; exact Ex_if_ne tgt hd ht (fun q => kt (fun z => q ((J_inj (b := 0) ha.1 ha.2 (by omega) (by omega)).mpr z))) (fun q => kf ((J_inj (b := 0) ha.1 ha.2 (by omega) (by omega)).mp q))
theorem Ex_icmp_ltN (a b : Nat) {off : Int} (tgt : Nat) (hd : decode μ.2.1 pc = .ok (.if_icmp .lt off, 3)) (ht : (pc : Int) + off = (tgt : Int)) (hx : x = nI a) (hy : y = nI b) (ha : a < 2147483648) (hb : b < 2147483648) (kt : a < b → Ex S μ tgt ls st h Q) (kf : b ≤ a → Ex S μ (pc + 3) ls st h Q) : Ex S μ pc ls (.int y :: .int x :: st) h Q := by
  subst hx hy; exact Ex_icmp_lt tgt hd ht (fun q => kt ((nI_ltI ha hb).mp q)) (fun q => kf (by have := mt (nI_ltI ha hb).mpr q; omega))
theorem Ex_icmp_ltZ (a b : Int) {off : Int} (tgt : Nat) (hd : decode μ.2.1 pc = .ok (.if_icmp .lt off, 3)) (ht : (pc : Int) + off = (tgt : Int)) (hx : x = J a) (hy : y = J b) (ha : -2147483648 ≤ a ∧ a < 2147483648) (hb : -2147483648 ≤ b ∧ b < 2147483648) (kt : a < b → Ex S μ tgt ls st h Q) (kf : b ≤ a → Ex S μ (pc + 3) ls st h Q) : Ex S μ pc ls (.int y :: .int x :: st) h Q := by
  subst hx hy; exact Ex_icmp_lt tgt hd ht (fun q => kt ((J_lt ha.1 ha.2 hb.1 hb.2).mp q)) (fun q => kf (by have := mt (J_lt ha.1 ha.2 hb.1 hb.2).mpr q; omega))
theorem Ex_if_ltN (a : Nat) {off : Int} (tgt : Nat) (hd : decode μ.2.1 pc = .ok (.ifCond .lt off, 3)) (ht : (pc : Int) + off = (tgt : Int)) (hx : x = nI a) (ha : a < 2147483648) (kt : a < 0 → Ex S μ tgt ls st h Q) (kf : 0 ≤ a → Ex S μ (pc + 3) ls st h Q) : Ex S μ pc ls (.int x :: st) h Q := by
  subst hx; exact Ex_if_lt tgt hd ht (fun q => kt ((nI_ltI (b := 0) ha (by omega)).mp q)) (fun q => kf (by have := mt (nI_ltI (b := 0) ha (by omega)).mpr q; omega))
theorem Ex_if_ltZ (a : Int) {off : Int} (tgt : Nat) (hd : decode μ.2.1 pc = .ok (.ifCond .lt off, 3)) (ht : (pc : Int) + off = (tgt : Int)) (hx : x = J a) (ha : -2147483648 ≤ a ∧ a < 2147483648) (kt : a < 0 → Ex S μ tgt ls st h Q) (kf : 0 ≤ a → Ex S μ (pc + 3) ls st h Q) : Ex S μ pc ls (.int x :: st) h Q := by
  subst hx; exact Ex_if_lt tgt hd ht (fun q => kt ((J_lt (b := 0) ha.1 ha.2 (by omega) (by omega)).mp q)) (fun q => kf (by have := mt (J_lt (b := 0) ha.1 ha.2 (by omega) (by omega)).mpr q; omega))
theorem Ex_icmp_geN (a b : Nat) {off : Int} (tgt : Nat) (hd : decode μ.2.1 pc = .ok (.if_icmp .ge off, 3)) (ht : (pc : Int) + off = (tgt : Int)) (hx : x = nI a) (hy : y = nI b) (ha : a < 2147483648) (hb : b < 2147483648) (kt : b ≤ a → Ex S μ tgt ls st h Q) (kf : a < b → Ex S μ (pc + 3) ls st h Q) : Ex S μ pc ls (.int y :: .int x :: st) h Q := by
  subst hx hy; exact Ex_icmp_ge tgt hd ht (fun q => kt ((nI_leI hb ha).mp q)) (fun q => kf (by have := mt (nI_leI hb ha).mpr q; omega))
theorem Ex_icmp_geZ (a b : Int) {off : Int} (tgt : Nat) (hd : decode μ.2.1 pc = .ok (.if_icmp .ge off, 3)) (ht : (pc : Int) + off = (tgt : Int)) (hx : x = J a) (hy : y = J b) (ha : -2147483648 ≤ a ∧ a < 2147483648) (hb : -2147483648 ≤ b ∧ b < 2147483648) (kt : b ≤ a → Ex S μ tgt ls st h Q) (kf : a < b → Ex S μ (pc + 3) ls st h Q) : Ex S μ pc ls (.int y :: .int x :: st) h Q := by
  subst hx hy; exact Ex_icmp_ge tgt hd ht (fun q => kt ((J_le hb.1 hb.2 ha.1 ha.2).mp q)) (fun q => kf (by have := mt (J_le hb.1 hb.2 ha.1 ha.2).mpr q; omega))
theorem Ex_if_geN (a : Nat) {off : Int} (tgt : Nat) (hd : decode μ.2.1 pc = .ok (.ifCond .ge off, 3)) (ht : (pc : Int) + off = (tgt : Int)) (hx : x = nI a) (ha : a < 2147483648) (kt : 0 ≤ a → Ex S μ tgt ls st h Q) (kf : a < 0 → Ex S μ (pc + 3) ls st h Q) : Ex S μ pc ls (.int x :: st) h Q := by
  subst hx; exact Ex_if_ge tgt hd ht (fun q => kt ((nI_leI (a := 0) (by omega) ha).mp q)) (fun q => kf (by have := mt (nI_leI (a := 0) (by omega) ha).mpr q; omega))
theorem Ex_if_geZ (a : Int) {off : Int} (tgt : Nat) (hd : decode μ.2.1 pc = .ok (.ifCond .ge off, 3)) (ht : (pc : Int) + off = (tgt : Int)) (hx : x = J a) (ha : -2147483648 ≤ a ∧ a < 2147483648) (kt : 0 ≤ a → Ex S μ tgt ls st h Q) (kf : a < 0 → Ex S μ (pc + 3) ls st h Q) : Ex S μ pc ls (.int x :: st) h Q := by
  subst hx; exact Ex_if_ge tgt hd ht (fun q => kt ((J_le (a := 0) (by omega) (by omega) ha.1 ha.2).mp q)) (fun q => kf (by have := mt (J_le (a := 0) (by omega) (by omega) ha.1 ha.2).mpr q; omega))
theorem Ex_icmp_gtN (a b : Nat) {off : Int} (tgt : Nat) (hd : decode μ.2.1 pc = .ok (.if_icmp .gt off, 3)) (ht : (pc : Int) + off = (tgt : Int)) (hx : x = nI a) (hy : y = nI b) (ha : a < 2147483648) (hb : b < 2147483648) (kt : b < a → Ex S μ tgt ls st h Q) (kf : a ≤ b → Ex S μ (pc + 3) ls st h Q) : Ex S μ pc ls (.int y :: .int x :: st) h Q := by
  subst hx hy; exact Ex_icmp_gt tgt hd ht (fun q => kt ((nI_ltI hb ha).mp q)) (fun q => kf (by have := mt (nI_ltI hb ha).mpr q; omega))
theorem Ex_icmp_gtZ (a b : Int) {off : Int} (tgt : Nat) (hd : decode μ.2.1 pc = .ok (.if_icmp .gt off, 3)) (ht : (pc : Int) + off = (tgt : Int)) (hx : x = J a) (hy : y = J b) (ha : -2147483648 ≤ a ∧ a < 2147483648) (hb : -2147483648 ≤ b ∧ b < 2147483648) (kt : b < a → Ex S μ tgt ls st h Q) (kf : a ≤ b → Ex S μ (pc + 3) ls st h Q) : Ex S μ pc ls (.int y :: .int x :: st) h Q := by
  subst hx hy; exact Ex_icmp_gt tgt hd ht (fun q => kt ((J_lt hb.1 hb.2 ha.1 ha.2).mp q)) (fun q => kf (by have := mt (J_lt hb.1 hb.2 ha.1 ha.2).mpr q; omega))
theorem Ex_if_gtN (a : Nat) {off : Int} (tgt : Nat) (hd : decode μ.2.1 pc = .ok (.ifCond .gt off, 3)) (ht : (pc : Int) + off = (tgt : Int)) (hx : x = nI a) (ha : a < 2147483648) (kt : 0 < a → Ex S μ tgt ls st h Q) (kf : a ≤ 0 → Ex S μ (pc + 3) ls st h Q) : Ex S μ pc ls (.int x :: st) h Q := by
  subst hx; exact Ex_if_gt tgt hd ht (fun q => kt ((nI_ltI (a := 0) (by omega) ha).mp q)) (fun q => kf (by have := mt (nI_ltI (a := 0) (by omega) ha).mpr q; omega))
theorem Ex_if_gtZ (a : Int) {off : Int} (tgt : Nat) (hd : decode μ.2.1 pc = .ok (.ifCond .gt off, 3)) (ht : (pc : Int) + off = (tgt : Int)) (hx : x = J a) (ha : -2147483648 ≤ a ∧ a < 2147483648) (kt : 0 < a → Ex S μ tgt ls st h Q) (kf : a ≤ 0 → Ex S μ (pc + 3) ls st h Q) : Ex S μ pc ls (.int x :: st) h Q := by
  subst hx; exact Ex_if_gt tgt hd ht (fun q => kt ((J_lt (a := 0) (by omega) (by omega) ha.1 ha.2).mp q)) (fun q => kf (by have := mt (J_lt (a := 0) (by omega) (by omega) ha.1 ha.2).mpr q; omega))
theorem Ex_icmp_leN (a b : Nat) {off : Int} (tgt : Nat) (hd : decode μ.2.1 pc = .ok (.if_icmp .le off, 3)) (ht : (pc : Int) + off = (tgt : Int)) (hx : x = nI a) (hy : y = nI b) (ha : a < 2147483648) (hb : b < 2147483648) (kt : a ≤ b → Ex S μ tgt ls st h Q) (kf : b < a → Ex S μ (pc + 3) ls st h Q) : Ex S μ pc ls (.int y :: .int x :: st) h Q := by
  subst hx hy; exact Ex_icmp_le tgt hd ht (fun q => kt ((nI_leI ha hb).mp q)) (fun q => kf (by have := mt (nI_leI ha hb).mpr q; omega))
theorem Ex_icmp_leZ (a b : Int) {off : Int} (tgt : Nat) (hd : decode μ.2.1 pc = .ok (.if_icmp .le off, 3)) (ht : (pc : Int) + off = (tgt : Int)) (hx : x = J a) (hy : y = J b) (ha : -2147483648 ≤ a ∧ a < 2147483648) (hb : -2147483648 ≤ b ∧ b < 2147483648) (kt : a ≤ b → Ex S μ tgt ls st h Q) (kf : b < a → Ex S μ (pc + 3) ls st h Q) : Ex S μ pc ls (.int y :: .int x :: st) h Q := by
  subst hx hy; exact Ex_icmp_le tgt hd ht (fun q => kt ((J_le ha.1 ha.2 hb.1 hb.2).mp q)) (fun q => kf (by have := mt (J_le ha.1 ha.2 hb.1 hb.2).mpr q; omega))
theorem Ex_if_leN (a : Nat) {off : Int} (tgt : Nat) (hd : decode μ.2.1 pc = .ok (.ifCond .le off, 3)) (ht : (pc : Int) + off = (tgt : Int)) (hx : x = nI a) (ha : a < 2147483648) (kt : a ≤ 0 → Ex S μ tgt ls st h Q) (kf : 0 < a → Ex S μ (pc + 3) ls st h Q) : Ex S μ pc ls (.int x :: st) h Q := by
  subst hx; exact Ex_if_le tgt hd ht (fun q => kt ((nI_leI (b := 0) ha (by omega)).mp q)) (fun q => kf (by have := mt (nI_leI (b := 0) ha (by omega)).mpr q; omega))
theorem Ex_if_leZ (a : Int) {off : Int} (tgt : Nat) (hd : decode μ.2.1 pc = .ok (.ifCond .le off, 3)) (ht : (pc : Int) + off = (tgt : Int)) (hx : x = J a) (ha : -2147483648 ≤ a ∧ a < 2147483648) (kt : a ≤ 0 → Ex S μ tgt ls st h Q) (kf : 0 < a → Ex S μ (pc + 3) ls st h Q) : Ex S μ pc ls (.int x :: st) h Q := by
  subst hx; exact Ex_if_le tgt hd ht (fun q => kt ((J_le (b := 0) ha.1 ha.2 (by omega) (by omega)).mp q)) (fun q => kf (by have := mt (J_le (b := 0) ha.1 ha.2 (by omega) (by omega)).mpr q; omega))
end MJZ
