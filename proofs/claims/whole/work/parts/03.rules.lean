/-! Locals, and a row an instruction. -/
theorem mj_v_cat (b base : Nat) (v : Value) : (mj_v b base v).category = v.category := by cases v <;> rfl
def mj_lv (b base : Nat) (ls : mj_L) : List (Nat × Value) := (List.range ls.length).filterMap (fun k => match ls[k]? with
  | some (some v) => some (k, mj_v b base v)
  | _ => none)
theorem mj_lv_mem {b base : Nat} {ls : mj_L} {k : Nat} {v : Value} (h : ls[k]? = some (some v)) : (k, mj_v b base v) ∈ mj_lv b base ls := by
  unfold mj_lv
  rw [List.mem_filterMap]
  have hl := (List.getElem?_eq_some_iff.mp h).1
  exact ⟨k, List.mem_range.mpr hl, by rw [h]⟩
theorem mj_lv_of {b base : Nat} {ls : mj_L} {q : Nat × Value} (h : q ∈ mj_lv b base ls) : ∃ v, ls[q.1]? = some (some v) ∧ q.2 = mj_v b base v := by
  unfold mj_lv at h
  rw [List.mem_filterMap] at h
  obtain ⟨k, -, hk⟩ := h
  split at hk
  · rename_i v hv
    cases hk
    exact ⟨v, hv, rfl⟩
  · cases hk
theorem mj_l_has {b base : Nat} {ls : mj_L} {rls : Array Slot} (h : mj_l b base ls rls) : lv_has rls ls.length (mj_lv b base ls) := by
  refine ⟨h.1, h.2.1, fun q hq => ?_⟩
  obtain ⟨v, h1, h2⟩ := mj_lv_of hq
  rw [h2]
  exact h.2.2 _ _ h1
/-- a long just ahead of a local that is set is gone -/
def mj_clr (ls : mj_L) (k : Nat) : mj_L := match k with
  | 0 => ls
  | j + 1 => match ls[j]? with
    | some (some (.long _)) => ls.set j none
    | some (some (.double _)) => ls.set j none
    | _ => ls
def mj_st1 (ls : mj_L) (k : Nat) (v : Value) : mj_L := (mj_clr ls k).set k (some v)
def mj_st2 (ls : mj_L) (k : Nat) (v : Value) : mj_L := ((mj_clr ls k).set k (some v)).set (k + 1) none
theorem mj_clr_len (ls : mj_L) (k : Nat) : (mj_clr ls k).length = ls.length := by
  unfold mj_clr
  split
  · rfl
  · split <;> simp
theorem mj_clr_get {ls : mj_L} {k i : Nat} {v : Value} (hi : i ≠ k) (h : (mj_clr ls k)[i]? = some (some v)) : ls[i]? = some (some v) ∧ ¬ (i + 1 = k ∧ v.category = 2) := by
  cases k with
  | zero => exact ⟨h, by omega⟩
  | succ j =>
    simp only [mj_clr] at h
    by_cases hij : i = j
    · subst hij
      have key : ls[i]? = some (some v) ∧ v.category ≠ 2 := by
        split at h
        · rw [List.getElem?_set] at h
          simp at h
        · rw [List.getElem?_set] at h
          simp at h
        · rename_i n1 n2
          refine ⟨h, fun hc => ?_⟩
          cases v <;> first | (simp [Value.category] at hc; done) | exact n1 _ h | exact n2 _ h
      exact ⟨key.1, fun z => key.2 z.2⟩
    · have e : (match ls[j]? with
        | some (some (Value.long _)) => ls.set j none
        | some (some (Value.double _)) => ls.set j none
        | _ => ls)[i]? = ls[i]? := by
        split <;> first | rfl | (rw [List.getElem?_set_ne (Ne.symm hij)])
      rw [e] at h
      exact ⟨h, by omega⟩
theorem mj_l_st1 {b base : Nat} {ls : mj_L} {i : Nat} {v : Value} {rls' : Array Slot} (h : lv_has rls' ls.length ((i, mj_v b base v) :: (mj_lv b base ls).filter (fun q => !(q.1 == i) && !(q.1 + 1 == i && q.2.category == 2)))) (hi : i < ls.length) : mj_l b base (mj_st1 ls i v) rls' := by
  refine ⟨by rw [h.1]; unfold mj_st1; rw [List.length_set, mj_clr_len], h.2.1, fun k w hk => ?_⟩
  unfold mj_st1 at hk
  by_cases hki : k = i
  · subst hki
    rw [List.getElem?_set_self (by rw [mj_clr_len]; exact hi)] at hk
    cases hk
    exact h.2.2 (k, mj_v b base v) (List.mem_cons_self ..)
  · rw [List.getElem?_set_ne (Ne.symm hki)] at hk
    obtain ⟨h1, h2⟩ := mj_clr_get hki hk
    refine h.2.2 (k, mj_v b base w) (List.mem_cons_of_mem _ (List.mem_filter.mpr ⟨mj_lv_mem h1, ?_⟩))
    have h3 : ¬ (k + 1 = i ∧ (mj_v b base w).category = 2) := by rw [mj_v_cat]; exact h2
    simp only [Bool.and_eq_true, Bool.not_eq_true', beq_eq_false_iff_ne, Bool.and_eq_false_iff]
    refine ⟨hki, ?_⟩
    by_cases hz : k + 1 = i
    · exact Or.inr (fun z => h3 ⟨hz, z⟩)
    · exact Or.inl hz
theorem mj_l_st2 {b base : Nat} {ls : mj_L} {i : Nat} {v : Value} {rls' : Array Slot} (h : lv_has rls' ls.length ((i, mj_v b base v) :: (mj_lv b base ls).filter (fun q => !(q.1 == i) && (!(q.1 == i + 1) && !(q.1 + 1 == i && q.2.category == 2))))) (hi : i + 1 < ls.length) : mj_l b base (mj_st2 ls i v) rls' := by
  refine ⟨by rw [h.1]; unfold mj_st2; rw [List.length_set, List.length_set, mj_clr_len], h.2.1, fun k w hk => ?_⟩
  unfold mj_st2 at hk
  by_cases hk1 : k = i + 1
  · subst hk1
    rw [List.getElem?_set_self (by rw [List.length_set, mj_clr_len]; exact hi)] at hk
    cases hk
  · rw [List.getElem?_set_ne (Ne.symm hk1)] at hk
    by_cases hki : k = i
    · subst hki
      rw [List.getElem?_set_self (by rw [mj_clr_len]; omega)] at hk
      cases hk
      exact h.2.2 (k, mj_v b base v) (List.mem_cons_self ..)
    · rw [List.getElem?_set_ne (Ne.symm hki)] at hk
      obtain ⟨h1, h2⟩ := mj_clr_get hki hk
      refine h.2.2 (k, mj_v b base w) (List.mem_cons_of_mem _ (List.mem_filter.mpr ⟨mj_lv_mem h1, ?_⟩))
      have h3 : ¬ (k + 1 = i ∧ (mj_v b base w).category = 2) := by rw [mj_v_cat]; exact h2
      simp only [Bool.and_eq_true, Bool.not_eq_true', beq_eq_false_iff_ne, Bool.and_eq_false_iff]
      refine ⟨hki, hk1, ?_⟩
      by_cases hz : k + 1 = i
      · exact Or.inr (fun z => h3 ⟨hz, z⟩)
      · exact Or.inl hz
def mj_sub : mj_L → mj_L → Prop
  | [], [] => True
  | none :: a, _ :: b => mj_sub a b
  | some v :: a, w :: b => w = some v ∧ mj_sub a b
  | _, _ => False
theorem mj_sub_at : ∀ {a b : mj_L}, mj_sub a b → a.length = b.length ∧ ∀ (k : Nat) (v : Value), a[k]? = some (some v) → b[k]? = some (some v)
  | [], [], _ => ⟨rfl, fun k v h => by simp at h⟩
  | none :: a, w :: b, h => by
    obtain ⟨h1, h2⟩ := mj_sub_at (a := a) (b := b) h
    refine ⟨by simp [h1], fun k v hk => ?_⟩
    cases k with
    | zero => simp at hk
    | succ k => simpa using h2 k v (by simpa using hk)
  | some x :: a, w :: b, h => by
    obtain ⟨h0, h⟩ := h
    obtain ⟨h1, h2⟩ := mj_sub_at (a := a) (b := b) h
    refine ⟨by simp [h1], fun k v hk => ?_⟩
    cases k with
    | zero => simp at hk; subst hk; simp [h0]
    | succ k => simpa using h2 k v (by simpa using hk)
theorem mj_l_sub {b base : Nat} {ls ls' : mj_L} {rls : Array Slot} (hs : mj_sub ls' ls) (h : mj_l b base ls rls) : mj_l b base ls' rls := by
  obtain ⟨h1, h2⟩ := mj_sub_at hs
  exact ⟨by rw [h1]; exact h.1, h.2.1, fun k v hk => h.2.2 k v (h2 k v hk)⟩
section MJR
variable {S : mj_S} {μ : mj_Y} {pc : Nat} {ls : mj_L} {st : List Value} {h : mj_H} {Q : Option Value → mj_H → Prop}
theorem Ex_iadd {x y : Int32} (hd : decode μ.2.1 pc = .ok (.iadd, 1)) (k : Ex S μ (pc + 1) ls (.int (x + y) :: st) h Q) : Ex S μ pc ls (.int y :: .int x :: st) h Q := mj_pure (fun C P V L kk => lv_iadd C.1 C.2.1 hd (kk _ L)) k
theorem Ex_isub {x y : Int32} (hd : decode μ.2.1 pc = .ok (.isub, 1)) (k : Ex S μ (pc + 1) ls (.int (x - y) :: st) h Q) : Ex S μ pc ls (.int y :: .int x :: st) h Q := mj_pure (fun C P V L kk => lv_isub C.1 C.2.1 hd (kk _ L)) k
theorem Ex_imul {x y : Int32} (hd : decode μ.2.1 pc = .ok (.imul, 1)) (k : Ex S μ (pc + 1) ls (.int (x * y) :: st) h Q) : Ex S μ pc ls (.int y :: .int x :: st) h Q := mj_pure (fun C P V L kk => lv_imul C.1 C.2.1 hd (kk _ L)) k
theorem Ex_iand {x y : Int32} (hd : decode μ.2.1 pc = .ok (.iand, 1)) (k : Ex S μ (pc + 1) ls (.int (x &&& y) :: st) h Q) : Ex S μ pc ls (.int y :: .int x :: st) h Q := mj_pure (fun C P V L kk => lv_iand C.1 C.2.1 hd (kk _ L)) k
theorem Ex_ior {x y : Int32} (hd : decode μ.2.1 pc = .ok (.ior, 1)) (k : Ex S μ (pc + 1) ls (.int (x ||| y) :: st) h Q) : Ex S μ pc ls (.int y :: .int x :: st) h Q := mj_pure (fun C P V L kk => lv_ior C.1 C.2.1 hd (kk _ L)) k
theorem Ex_ixor {x y : Int32} (hd : decode μ.2.1 pc = .ok (.ixor, 1)) (k : Ex S μ (pc + 1) ls (.int (x ^^^ y) :: st) h Q) : Ex S μ pc ls (.int y :: .int x :: st) h Q := mj_pure (fun C P V L kk => lv_ixor C.1 C.2.1 hd (kk _ L)) k
theorem Ex_ishl {x y : Int32} (hd : decode μ.2.1 pc = .ok (.ishl, 1)) (k : Ex S μ (pc + 1) ls (.int (x <<< (y &&& 31)) :: st) h Q) : Ex S μ pc ls (.int y :: .int x :: st) h Q := mj_pure (fun C P V L kk => lv_ishl C.1 C.2.1 hd (kk _ L)) k
theorem Ex_ishr {x y : Int32} (hd : decode μ.2.1 pc = .ok (.ishr, 1)) (k : Ex S μ (pc + 1) ls (.int (x >>> (y &&& 31)) :: st) h Q) : Ex S μ pc ls (.int y :: .int x :: st) h Q := mj_pure (fun C P V L kk => lv_ishr C.1 C.2.1 hd (kk _ L)) k
theorem Ex_idiv {x y : Int32} (hd : decode μ.2.1 pc = .ok (.idiv, 1)) (hne : ¬ y = 0) (k : Ex S μ (pc + 1) ls (.int (x / y) :: st) h Q) : Ex S μ pc ls (.int y :: .int x :: st) h Q := mj_pure (fun C P V L kk => lv_idiv C.1 C.2.1 hd hne (kk _ L)) k
theorem Ex_irem {x y : Int32} (hd : decode μ.2.1 pc = .ok (.irem, 1)) (hne : ¬ y = 0) (k : Ex S μ (pc + 1) ls (.int (x - x / y * y) :: st) h Q) : Ex S μ pc ls (.int y :: .int x :: st) h Q := mj_pure (fun C P V L kk => lv_irem C.1 C.2.1 hd hne (kk _ L)) k
theorem Ex_iushr {x y : Int32} (hd : decode μ.2.1 pc = .ok (.iushr, 1)) (k : Ex S μ (pc + 1) ls (.int ((x.toUInt32 >>> (y.toUInt32 &&& Int32.toUInt32 31)).toInt32) :: st) h Q) : Ex S μ pc ls (.int y :: .int x :: st) h Q := mj_pure (fun C P V L kk => lv_iushr C.1 C.2.1 hd rfl (kk _ L)) k
theorem Ex_ineg {x : Int32} (hd : decode μ.2.1 pc = .ok (.ineg, 1)) (k : Ex S μ (pc + 1) ls (.int (-x) :: st) h Q) : Ex S μ pc ls (.int x :: st) h Q := mj_pure (fun C P V L kk => lv_ineg C.1 C.2.1 hd (kk _ L)) k
theorem Ex_ladd {x y : Int64} (hd : decode μ.2.1 pc = .ok (.ladd, 1)) (k : Ex S μ (pc + 1) ls (.long (x + y) :: st) h Q) : Ex S μ pc ls (.long y :: .long x :: st) h Q := mj_pure (fun C P V L kk => lv_ladd C.1 C.2.1 hd (kk _ L)) k
theorem Ex_lsub {x y : Int64} (hd : decode μ.2.1 pc = .ok (.lsub, 1)) (k : Ex S μ (pc + 1) ls (.long (x - y) :: st) h Q) : Ex S μ pc ls (.long y :: .long x :: st) h Q := mj_pure (fun C P V L kk => lv_lsub C.1 C.2.1 hd (kk _ L)) k
theorem Ex_land {x y : Int64} (hd : decode μ.2.1 pc = .ok (.land, 1)) (k : Ex S μ (pc + 1) ls (.long (x &&& y) :: st) h Q) : Ex S μ pc ls (.long y :: .long x :: st) h Q := mj_pure (fun C P V L kk => lv_land C.1 C.2.1 hd (kk _ L)) k
theorem Ex_lor {x y : Int64} (hd : decode μ.2.1 pc = .ok (.lor, 1)) (k : Ex S μ (pc + 1) ls (.long (x ||| y) :: st) h Q) : Ex S μ pc ls (.long y :: .long x :: st) h Q := mj_pure (fun C P V L kk => lv_lor C.1 C.2.1 hd (kk _ L)) k
theorem Ex_lxor {x y : Int64} (hd : decode μ.2.1 pc = .ok (.lxor, 1)) (k : Ex S μ (pc + 1) ls (.long (x ^^^ y) :: st) h Q) : Ex S μ pc ls (.long y :: .long x :: st) h Q := mj_pure (fun C P V L kk => lv_lxor C.1 C.2.1 hd (kk _ L)) k
theorem Ex_lshl {x : Int64} {y : Int32} (hd : decode μ.2.1 pc = .ok (.lshl, 1)) (k : Ex S μ (pc + 1) ls (.long (x <<< (y.toInt64 &&& 63)) :: st) h Q) : Ex S μ pc ls (.int y :: .long x :: st) h Q := mj_pure (fun C P V L kk => lv_lshl C.1 C.2.1 hd rfl (kk _ L)) k
theorem Ex_lshr {x : Int64} {y : Int32} (hd : decode μ.2.1 pc = .ok (.lshr, 1)) (k : Ex S μ (pc + 1) ls (.long (x >>> (y.toInt64 &&& 63)) :: st) h Q) : Ex S μ pc ls (.int y :: .long x :: st) h Q := mj_pure (fun C P V L kk => lv_lshr C.1 C.2.1 hd rfl (kk _ L)) k
theorem Ex_lushr {x : Int64} {y : Int32} (hd : decode μ.2.1 pc = .ok (.lushr, 1)) (k : Ex S μ (pc + 1) ls (.long ((x.toUInt64 >>> (y.toInt64.toUInt64 &&& Int64.toUInt64 63)).toInt64) :: st) h Q) : Ex S μ pc ls (.int y :: .long x :: st) h Q := mj_pure (fun C P V L kk => lv_lushr C.1 C.2.1 hd rfl (kk _ L)) k
theorem Ex_i2l {x : Int32} (hd : decode μ.2.1 pc = .ok (.i2l, 1)) (k : Ex S μ (pc + 1) ls (.long x.toInt64 :: st) h Q) : Ex S μ pc ls (.int x :: st) h Q := mj_pure (fun C P V L kk => lv_i2l C.1 C.2.1 hd rfl (kk _ L)) k
theorem Ex_l2i {x : Int64} (hd : decode μ.2.1 pc = .ok (.l2i, 1)) (k : Ex S μ (pc + 1) ls (.int x.toInt32 :: st) h Q) : Ex S μ pc ls (.long x :: st) h Q := mj_pure (fun C P V L kk => lv_l2i C.1 C.2.1 hd rfl (kk _ L)) k
theorem Ex_i2s {x : Int32} (hd : decode μ.2.1 pc = .ok (.i2s, 1)) (k : Ex S μ (pc + 1) ls (.int x.toInt16.toInt32 :: st) h Q) : Ex S μ pc ls (.int x :: st) h Q := mj_pure (fun C P V L kk => lv_i2s C.1 C.2.1 hd rfl (kk _ L)) k
theorem Ex_lcmp {x y : Int64} (hd : decode μ.2.1 pc = .ok (.lcmp, 1)) (k : Ex S μ (pc + 1) ls (.int (lg_cmp x y) :: st) h Q) : Ex S μ pc ls (.long y :: .long x :: st) h Q := mj_pure (fun C P V L kk => W.lcmp C.1 C.2.1 hd (kk _ L)) k
theorem Ex_iconst {n : Int} {v : Int32} (hd : decode μ.2.1 pc = .ok (.iconst n, 1)) (hv : Int32.ofInt n = v) (k : Ex S μ (pc + 1) ls (.int v :: st) h Q) : Ex S μ pc ls st h Q := mj_pure (fun C P V L kk => lv_iconst C.1 C.2.1 hd hv (kk _ L)) k
theorem Ex_bipush {n : Int} {v : Int32} (hd : decode μ.2.1 pc = .ok (.bipush n, 2)) (hv : (Int8.ofInt n).toInt32 = v) (k : Ex S μ (pc + 2) ls (.int v :: st) h Q) : Ex S μ pc ls st h Q := mj_pure (fun C P V L kk => lv_bipush C.1 C.2.1 hd hv (kk _ L)) k
theorem Ex_sipush {n : Int} {v : Int32} (hd : decode μ.2.1 pc = .ok (.sipush n, 3)) (hv : (Int16.ofInt n).toInt32 = v) (k : Ex S μ (pc + 3) ls (.int v :: st) h Q) : Ex S μ pc ls st h Q := mj_pure (fun C P V L kk => lv_sipush C.1 C.2.1 hd hv (kk _ L)) k
theorem Ex_lconst {n : Fin 2} {v : Int64} (hd : decode μ.2.1 pc = .ok (.lconst n, 1)) (hv : Int64.ofNat (n : Nat) = v) (k : Ex S μ (pc + 1) ls (.long v :: st) h Q) : Ex S μ pc ls st h Q := mj_pure (fun C P V L kk => lv_lconst C.1 C.2.1 hd hv (kk _ L)) k
theorem Ex_ldc {i : Nat} {v : Int32} (hw : Cond.constant μ.1.cls i v ∈ lw_g) (hd : decode μ.2.1 pc = .ok (.ldc i, 2)) (k : Ex S μ (pc + 2) ls (.int v :: st) h Q) : Ex S μ pc ls st h Q := mj_pure (fun C P V L kk => lv_ldc C.1 C.2.1 C.2.2.2.1 (C.2.2.2.2.2.2.2.1 _ hw) hd (kk _ L)) k
theorem Ex_ldc_w {i : Nat} {v : Int32} (hw : Cond.constant μ.1.cls i v ∈ lw_g) (hd : decode μ.2.1 pc = .ok (.ldc_w i, 3)) (k : Ex S μ (pc + 3) ls (.int v :: st) h Q) : Ex S μ pc ls st h Q := mj_pure (fun C P V L kk => lv_ldcw C.1 C.2.1 C.2.2.2.1 (C.2.2.2.2.2.2.2.1 _ hw) hd (kk _ L)) k
theorem Ex_ldc2_w {i : Nat} {v : Int64} (hw : Cond.constantLong μ.1.cls i v ∈ lw_g) (hd : decode μ.2.1 pc = .ok (.ldc2_w i, 3)) (k : Ex S μ (pc + 3) ls (.long v :: st) h Q) : Ex S μ pc ls st h Q := mj_pure (fun C P V L kk => lv_ldc2 C.1 C.2.1 C.2.2.2.1 (C.2.2.2.2.2.2.2.1 _ hw) hd (kk _ L)) k
theorem Ex_aconst_null (hd : decode μ.2.1 pc = .ok (.aconst_null, 1)) (k : Ex S μ (pc + 1) ls (.null :: st) h Q) : Ex S μ pc ls st h Q := mj_pure (fun C P V L kk => lv_null C.1 C.2.1 hd (kk _ L)) k
theorem Ex_iload_n {j : Fin 4} {x : Int32} (hd : decode μ.2.1 pc = .ok (.iload_n j, 1)) (hl : ls[(j : Nat)]? = some (some (.int x))) (k : Ex S μ (pc + 1) ls (.int x :: st) h Q) : Ex S μ pc ls st h Q := mj_pure (fun C P V L kk => lv_iload_n C.1 C.2.1 hd rfl (L.2.2 _ _ hl) (kk _ L)) k
theorem Ex_iload {j : Nat} {x : Int32} (hd : decode μ.2.1 pc = .ok (.iload j, 2)) (hl : ls[j]? = some (some (.int x))) (k : Ex S μ (pc + 2) ls (.int x :: st) h Q) : Ex S μ pc ls st h Q := mj_pure (fun C P V L kk => lv_iload C.1 C.2.1 hd (L.2.2 _ _ hl) (kk _ L)) k
theorem Ex_lload_n {j : Fin 4} {x : Int64} (hd : decode μ.2.1 pc = .ok (.lload_n j, 1)) (hl : ls[(j : Nat)]? = some (some (.long x))) (k : Ex S μ (pc + 1) ls (.long x :: st) h Q) : Ex S μ pc ls st h Q := mj_pure (fun C P V L kk => lv_lload_n C.1 C.2.1 hd rfl (L.2.2 _ _ hl) (kk _ L)) k
theorem Ex_lload {j : Nat} {x : Int64} (hd : decode μ.2.1 pc = .ok (.lload j, 2)) (hl : ls[j]? = some (some (.long x))) (k : Ex S μ (pc + 2) ls (.long x :: st) h Q) : Ex S μ pc ls st h Q := mj_pure (fun C P V L kk => lv_lload C.1 C.2.1 hd (L.2.2 _ _ hl) (kk _ L)) k
theorem Ex_aload_n {j : Fin 4} {x : Nat} (hd : decode μ.2.1 pc = .ok (.aload_n j, 1)) (hl : ls[(j : Nat)]? = some (some (.ref x))) (k : Ex S μ (pc + 1) ls (.ref x :: st) h Q) : Ex S μ pc ls st h Q := mj_pure (fun C P V L kk => lv_aload_n C.1 C.2.1 hd rfl (L.2.2 _ _ hl) (kk _ L)) k
theorem Ex_aloads_n {j : Fin 4} {x : UInt32} (hd : decode μ.2.1 pc = .ok (.aload_n j, 1)) (hl : ls[(j : Nat)]? = some (some (.float x))) (k : Ex S μ (pc + 1) ls (.float x :: st) h Q) : Ex S μ pc ls st h Q := mj_pure (fun C P V L kk => lv_aload_n C.1 C.2.1 hd rfl (L.2.2 _ _ hl) (kk _ L)) k
theorem Ex_aload0_n {j : Fin 4} (hd : decode μ.2.1 pc = .ok (.aload_n j, 1)) (hl : ls[(j : Nat)]? = some (some .null)) (k : Ex S μ (pc + 1) ls (.null :: st) h Q) : Ex S μ pc ls st h Q := mj_pure (fun C P V L kk => lv_aload_nN C.1 C.2.1 hd rfl (L.2.2 _ _ hl) (kk _ L)) k
theorem Ex_aload {j : Nat} {x : Nat} (hd : decode μ.2.1 pc = .ok (.aload j, 2)) (hl : ls[j]? = some (some (.ref x))) (k : Ex S μ (pc + 2) ls (.ref x :: st) h Q) : Ex S μ pc ls st h Q := mj_pure (fun C P V L kk => lv_aload C.1 C.2.1 hd (L.2.2 _ _ hl) (kk _ L)) k
theorem Ex_aloads {j : Nat} {x : UInt32} (hd : decode μ.2.1 pc = .ok (.aload j, 2)) (hl : ls[j]? = some (some (.float x))) (k : Ex S μ (pc + 2) ls (.float x :: st) h Q) : Ex S μ pc ls st h Q := mj_pure (fun C P V L kk => lv_aload C.1 C.2.1 hd (L.2.2 _ _ hl) (kk _ L)) k
theorem Ex_aload0 {j : Nat} (hd : decode μ.2.1 pc = .ok (.aload j, 2)) (hl : ls[j]? = some (some .null)) (k : Ex S μ (pc + 2) ls (.null :: st) h Q) : Ex S μ pc ls st h Q := mj_pure (fun C P V L kk => lv_aloadN C.1 C.2.1 hd (L.2.2 _ _ hl) (kk _ L)) k
theorem Ex_dup {v : Value} (hc : v.category = 1) (hd : decode μ.2.1 pc = .ok (.dup, 1)) (k : Ex S μ (pc + 1) ls (v :: v :: st) h Q) : Ex S μ pc ls (v :: st) h Q := mj_pure (fun C P V L kk => lv_dup C.1 C.2.1 hd (by rw [mj_v_cat]; exact hc) (kk _ L)) k
theorem Ex_dup2 {v w : Value} (hc : v.category = 1) (hw : w.category = 1) (hd : decode μ.2.1 pc = .ok (.dup2, 1)) (k : Ex S μ (pc + 1) ls (v :: w :: v :: w :: st) h Q) : Ex S μ pc ls (v :: w :: st) h Q := mj_pure (fun C P V L kk => lv_dup2_11 C.1 C.2.1 hd (by rw [mj_v_cat]; exact hc) (by rw [mj_v_cat]; exact hw) (kk _ L)) k
theorem Ex_if_eq {x : Int32} {off : Int} (tgt : Nat) (hd : decode μ.2.1 pc = .ok (.ifCond .eq off, 3)) (ht : (pc : Int) + off = (tgt : Int)) (kt : x = 0 → Ex S μ tgt ls st h Q) (kf : ¬ (x = 0) → Ex S μ (pc + 3) ls st h Q) : Ex S μ pc ls (.int x :: st) h Q := by
  by_cases q : x = 0
  · exact mj_pure (fun C P V L kk => lv_if_eq C.1 C.2.1 hd ht (fun _ => kk _ L) (fun z => absurd q z)) (kt q)
  · exact mj_pure (fun C P V L kk => lv_if_eq C.1 C.2.1 hd ht (fun z => absurd z q) (fun _ => kk _ L)) (kf q)
theorem Ex_icmp_eq {x y : Int32} {off : Int} (tgt : Nat) (hd : decode μ.2.1 pc = .ok (.if_icmp .eq off, 3)) (ht : (pc : Int) + off = (tgt : Int)) (kt : x = y → Ex S μ tgt ls st h Q) (kf : ¬ (x = y) → Ex S μ (pc + 3) ls st h Q) : Ex S μ pc ls (.int y :: .int x :: st) h Q := by
  by_cases q : x = y
  · exact mj_pure (fun C P V L kk => lv_icmp_eq C.1 C.2.1 hd ht (fun _ => kk _ L) (fun z => absurd q z)) (kt q)
  · exact mj_pure (fun C P V L kk => lv_icmp_eq C.1 C.2.1 hd ht (fun z => absurd z q) (fun _ => kk _ L)) (kf q)
theorem Ex_if_ne {x : Int32} {off : Int} (tgt : Nat) (hd : decode μ.2.1 pc = .ok (.ifCond .ne off, 3)) (ht : (pc : Int) + off = (tgt : Int)) (kt : ¬ x = 0 → Ex S μ tgt ls st h Q) (kf : x = 0 → Ex S μ (pc + 3) ls st h Q) : Ex S μ pc ls (.int x :: st) h Q := by
  by_cases q : x = 0
  · exact mj_pure (fun C P V L kk => lv_if_ne C.1 C.2.1 hd ht (fun z => absurd q z) (fun _ => kk _ L)) (kf q)
  · exact mj_pure (fun C P V L kk => lv_if_ne C.1 C.2.1 hd ht (fun _ => kk _ L) (fun z => absurd z q)) (kt q)
theorem Ex_icmp_ne {x y : Int32} {off : Int} (tgt : Nat) (hd : decode μ.2.1 pc = .ok (.if_icmp .ne off, 3)) (ht : (pc : Int) + off = (tgt : Int)) (kt : ¬ x = y → Ex S μ tgt ls st h Q) (kf : x = y → Ex S μ (pc + 3) ls st h Q) : Ex S μ pc ls (.int y :: .int x :: st) h Q := by
  by_cases q : x = y
  · exact mj_pure (fun C P V L kk => lv_icmp_ne C.1 C.2.1 hd ht (fun z => absurd q z) (fun _ => kk _ L)) (kf q)
  · exact mj_pure (fun C P V L kk => lv_icmp_ne C.1 C.2.1 hd ht (fun _ => kk _ L) (fun z => absurd z q)) (kt q)
theorem Ex_if_lt {x : Int32} {off : Int} (tgt : Nat) (hd : decode μ.2.1 pc = .ok (.ifCond .lt off, 3)) (ht : (pc : Int) + off = (tgt : Int)) (kt : x < 0 → Ex S μ tgt ls st h Q) (kf : ¬ (x < 0) → Ex S μ (pc + 3) ls st h Q) : Ex S μ pc ls (.int x :: st) h Q := by
  by_cases q : x < 0
  · exact mj_pure (fun C P V L kk => lv_if_lt C.1 C.2.1 hd ht (fun _ => kk _ L) (fun z => absurd q z)) (kt q)
  · exact mj_pure (fun C P V L kk => lv_if_lt C.1 C.2.1 hd ht (fun z => absurd z q) (fun _ => kk _ L)) (kf q)
theorem Ex_icmp_lt {x y : Int32} {off : Int} (tgt : Nat) (hd : decode μ.2.1 pc = .ok (.if_icmp .lt off, 3)) (ht : (pc : Int) + off = (tgt : Int)) (kt : x < y → Ex S μ tgt ls st h Q) (kf : ¬ (x < y) → Ex S μ (pc + 3) ls st h Q) : Ex S μ pc ls (.int y :: .int x :: st) h Q := by
  by_cases q : x < y
  · exact mj_pure (fun C P V L kk => lv_icmp_lt C.1 C.2.1 hd ht (fun _ => kk _ L) (fun z => absurd q z)) (kt q)
  · exact mj_pure (fun C P V L kk => lv_icmp_lt C.1 C.2.1 hd ht (fun z => absurd z q) (fun _ => kk _ L)) (kf q)
theorem Ex_if_ge {x : Int32} {off : Int} (tgt : Nat) (hd : decode μ.2.1 pc = .ok (.ifCond .ge off, 3)) (ht : (pc : Int) + off = (tgt : Int)) (kt : 0 ≤ x → Ex S μ tgt ls st h Q) (kf : ¬ (0 ≤ x) → Ex S μ (pc + 3) ls st h Q) : Ex S μ pc ls (.int x :: st) h Q := by
  by_cases q : 0 ≤ x
  · exact mj_pure (fun C P V L kk => lv_if_ge C.1 C.2.1 hd ht (fun _ => kk _ L) (fun z => absurd q z)) (kt q)
  · exact mj_pure (fun C P V L kk => lv_if_ge C.1 C.2.1 hd ht (fun z => absurd z q) (fun _ => kk _ L)) (kf q)
theorem Ex_icmp_ge {x y : Int32} {off : Int} (tgt : Nat) (hd : decode μ.2.1 pc = .ok (.if_icmp .ge off, 3)) (ht : (pc : Int) + off = (tgt : Int)) (kt : y ≤ x → Ex S μ tgt ls st h Q) (kf : ¬ (y ≤ x) → Ex S μ (pc + 3) ls st h Q) : Ex S μ pc ls (.int y :: .int x :: st) h Q := by
  by_cases q : y ≤ x
  · exact mj_pure (fun C P V L kk => lv_icmp_ge C.1 C.2.1 hd ht (fun _ => kk _ L) (fun z => absurd q z)) (kt q)
  · exact mj_pure (fun C P V L kk => lv_icmp_ge C.1 C.2.1 hd ht (fun z => absurd z q) (fun _ => kk _ L)) (kf q)
theorem Ex_if_gt {x : Int32} {off : Int} (tgt : Nat) (hd : decode μ.2.1 pc = .ok (.ifCond .gt off, 3)) (ht : (pc : Int) + off = (tgt : Int)) (kt : 0 < x → Ex S μ tgt ls st h Q) (kf : ¬ (0 < x) → Ex S μ (pc + 3) ls st h Q) : Ex S μ pc ls (.int x :: st) h Q := by
  by_cases q : 0 < x
  · exact mj_pure (fun C P V L kk => lv_if_gt C.1 C.2.1 hd ht (fun _ => kk _ L) (fun z => absurd q z)) (kt q)
  · exact mj_pure (fun C P V L kk => lv_if_gt C.1 C.2.1 hd ht (fun z => absurd z q) (fun _ => kk _ L)) (kf q)
theorem Ex_icmp_gt {x y : Int32} {off : Int} (tgt : Nat) (hd : decode μ.2.1 pc = .ok (.if_icmp .gt off, 3)) (ht : (pc : Int) + off = (tgt : Int)) (kt : y < x → Ex S μ tgt ls st h Q) (kf : ¬ (y < x) → Ex S μ (pc + 3) ls st h Q) : Ex S μ pc ls (.int y :: .int x :: st) h Q := by
  by_cases q : y < x
  · exact mj_pure (fun C P V L kk => lv_icmp_gt C.1 C.2.1 hd ht (fun _ => kk _ L) (fun z => absurd q z)) (kt q)
  · exact mj_pure (fun C P V L kk => lv_icmp_gt C.1 C.2.1 hd ht (fun z => absurd z q) (fun _ => kk _ L)) (kf q)
theorem Ex_if_le {x : Int32} {off : Int} (tgt : Nat) (hd : decode μ.2.1 pc = .ok (.ifCond .le off, 3)) (ht : (pc : Int) + off = (tgt : Int)) (kt : x ≤ 0 → Ex S μ tgt ls st h Q) (kf : ¬ (x ≤ 0) → Ex S μ (pc + 3) ls st h Q) : Ex S μ pc ls (.int x :: st) h Q := by
  by_cases q : x ≤ 0
  · exact mj_pure (fun C P V L kk => lv_if_le C.1 C.2.1 hd ht (fun _ => kk _ L) (fun z => absurd q z)) (kt q)
  · exact mj_pure (fun C P V L kk => lv_if_le C.1 C.2.1 hd ht (fun z => absurd z q) (fun _ => kk _ L)) (kf q)
theorem Ex_icmp_le {x y : Int32} {off : Int} (tgt : Nat) (hd : decode μ.2.1 pc = .ok (.if_icmp .le off, 3)) (ht : (pc : Int) + off = (tgt : Int)) (kt : x ≤ y → Ex S μ tgt ls st h Q) (kf : ¬ (x ≤ y) → Ex S μ (pc + 3) ls st h Q) : Ex S μ pc ls (.int y :: .int x :: st) h Q := by
  by_cases q : x ≤ y
  · exact mj_pure (fun C P V L kk => lv_icmp_le C.1 C.2.1 hd ht (fun _ => kk _ L) (fun z => absurd q z)) (kt q)
  · exact mj_pure (fun C P V L kk => lv_icmp_le C.1 C.2.1 hd ht (fun z => absurd z q) (fun _ => kk _ L)) (kf q)
theorem Ex_goto {off : Int} (tgt : Nat) (hd : decode μ.2.1 pc = .ok (.goto off, 3)) (ht : (pc : Int) + off = (tgt : Int)) (k : Ex S μ tgt ls st h Q) : Ex S μ pc ls st h Q := mj_pure (fun C P V L kk => lv_goto C.1 C.2.1 hd ht (kk _ L)) k
theorem Ex_ifnull {x : Nat} {off : Int} (hd : decode μ.2.1 pc = .ok (.ifnull off, 3)) (k : Ex S μ (pc + 3) ls st h Q) : Ex S μ pc ls (.ref x :: st) h Q := mj_pure (fun C P V L kk => lv_ifnull C.1 C.2.1 hd (kk _ L)) k
theorem Ex_ifnull0 {off : Int} (tgt : Nat) (hd : decode μ.2.1 pc = .ok (.ifnull off, 3)) (ht : (pc : Int) + off = (tgt : Int)) (k : Ex S μ tgt ls st h Q) : Ex S μ pc ls (.null :: st) h Q := mj_pure (fun C P V L kk => lv_ifnullN C.1 C.2.1 hd ht (kk _ L)) k
theorem Ex_ifnonnull {x : Nat} {off : Int} (tgt : Nat) (hd : decode μ.2.1 pc = .ok (.ifnonnull off, 3)) (ht : (pc : Int) + off = (tgt : Int)) (k : Ex S μ tgt ls st h Q) : Ex S μ pc ls (.ref x :: st) h Q := mj_pure (fun C P V L kk => lv_ifnonnull C.1 C.2.1 hd ht (kk _ L)) k
theorem Ex_ifnonnull0 {off : Int} (hd : decode μ.2.1 pc = .ok (.ifnonnull off, 3)) (k : Ex S μ (pc + 3) ls st h Q) : Ex S μ pc ls (.null :: st) h Q := mj_pure (fun C P V L kk => lv_ifnonnullN C.1 C.2.1 hd (kk _ L)) k
theorem Ex_swIn {dflt lo hi : Int} {offs : Array Int} {len : Nat} {x : Int32} {off : Int} (tgt : Nat) (hd : decode μ.2.1 pc = .ok (.tableswitch dflt lo hi offs, len)) (h1 : ¬ x.toInt < lo) (h2 : ¬ hi < x.toInt) (ho : offs[(x.toInt - lo).toNat]? = some off) (ht : (pc : Int) + off = (tgt : Int)) (k : Ex S μ tgt ls st h Q) : Ex S μ pc ls (.int x :: st) h Q := mj_pure (fun C P V L kk => lv_tableIn C.1 C.2.1 hd h1 h2 ho ht (kk _ L)) k
theorem Ex_swOut {dflt lo hi : Int} {offs : Array Int} {len : Nat} {x : Int32} (tgt : Nat) (hd : decode μ.2.1 pc = .ok (.tableswitch dflt lo hi offs, len)) (hz : x.toInt < lo ∨ hi < x.toInt) (ht : (pc : Int) + dflt = (tgt : Int)) (k : Ex S μ tgt ls st h Q) : Ex S μ pc ls (.int x :: st) h Q := mj_pure (fun C P V L kk => lv_tableOut C.1 C.2.1 hd hz ht (kk _ L)) k
theorem Ex_istore_n {j : Fin 4} {x : Int32} (ls' : mj_L) (hd : decode μ.2.1 pc = .ok (.istore_n j, 1)) (hn : (j : Nat) < ls.length) (he : mj_st1 ls (j : Nat) (.int x) = ls') (k : Ex S μ (pc + 1) ls' st h Q) : Ex S μ pc ls (.int x :: st) h Q := by
  subst he
  exact mj_pure (fun C P V L kk => lv_istore_n C.1 C.2.1 hd rfl (mj_l_has L) hn rfl (fun rls' hl => kk rls' (mj_l_st1 (v := .int x) hl hn))) k
theorem Ex_istore {j : Nat} {x : Int32} (ls' : mj_L) (hd : decode μ.2.1 pc = .ok (.istore j, 2)) (hn : j < ls.length) (he : mj_st1 ls j (.int x) = ls') (k : Ex S μ (pc + 2) ls' st h Q) : Ex S μ pc ls (.int x :: st) h Q := by
  subst he
  exact mj_pure (fun C P V L kk => lv_istore C.1 C.2.1 hd (mj_l_has L) hn rfl (fun rls' hl => kk rls' (mj_l_st1 (v := .int x) hl hn))) k
theorem Ex_lstore_n {j : Fin 4} {x : Int64} (ls' : mj_L) (hd : decode μ.2.1 pc = .ok (.lstore_n j, 1)) (hn : (j : Nat) + 1 < ls.length) (he : mj_st2 ls (j : Nat) (.long x) = ls') (k : Ex S μ (pc + 1) ls' st h Q) : Ex S μ pc ls (.long x :: st) h Q := by
  subst he
  exact mj_pure (fun C P V L kk => lv_lstore_n C.1 C.2.1 hd rfl (mj_l_has L) hn rfl (fun rls' hl => kk rls' (mj_l_st2 (v := .long x) hl hn))) k
theorem Ex_lstore {j : Nat} {x : Int64} (ls' : mj_L) (hd : decode μ.2.1 pc = .ok (.lstore j, 2)) (hn : j + 1 < ls.length) (he : mj_st2 ls j (.long x) = ls') (k : Ex S μ (pc + 2) ls' st h Q) : Ex S μ pc ls (.long x :: st) h Q := by
  subst he
  exact mj_pure (fun C P V L kk => lv_lstore C.1 C.2.1 hd (mj_l_has L) hn rfl (fun rls' hl => kk rls' (mj_l_st2 (v := .long x) hl hn))) k
theorem Ex_astore_n {j : Fin 4} {x : Nat} (ls' : mj_L) (hd : decode μ.2.1 pc = .ok (.astore_n j, 1)) (hn : (j : Nat) < ls.length) (he : mj_st1 ls (j : Nat) (.ref x) = ls') (k : Ex S μ (pc + 1) ls' st h Q) : Ex S μ pc ls (.ref x :: st) h Q := by
  subst he
  exact mj_pure (fun C P V L kk => lv_astore_n C.1 C.2.1 hd rfl (mj_l_has L) hn rfl (fun rls' hl => kk rls' (mj_l_st1 (v := .ref x) hl hn))) k
theorem Ex_astore0_n {j : Fin 4} (ls' : mj_L) (hd : decode μ.2.1 pc = .ok (.astore_n j, 1)) (hn : (j : Nat) < ls.length) (he : mj_st1 ls (j : Nat) .null = ls') (k : Ex S μ (pc + 1) ls' st h Q) : Ex S μ pc ls (.null :: st) h Q := by
  subst he
  exact mj_pure (fun C P V L kk => lv_astore_nN C.1 C.2.1 hd rfl (mj_l_has L) hn rfl (fun rls' hl => kk rls' (mj_l_st1 (v := .null) hl hn))) k
theorem Ex_astore {j : Nat} {x : Nat} (ls' : mj_L) (hd : decode μ.2.1 pc = .ok (.astore j, 2)) (hn : j < ls.length) (he : mj_st1 ls j (.ref x) = ls') (k : Ex S μ (pc + 2) ls' st h Q) : Ex S μ pc ls (.ref x :: st) h Q := by
  subst he
  exact mj_pure (fun C P V L kk => lv_astore C.1 C.2.1 hd (mj_l_has L) hn rfl (fun rls' hl => kk rls' (mj_l_st1 (v := .ref x) hl hn))) k
theorem Ex_astore0 {j : Nat} (ls' : mj_L) (hd : decode μ.2.1 pc = .ok (.astore j, 2)) (hn : j < ls.length) (he : mj_st1 ls j .null = ls') (k : Ex S μ (pc + 2) ls' st h Q) : Ex S μ pc ls (.null :: st) h Q := by
  subst he
  exact mj_pure (fun C P V L kk => lv_astoreN C.1 C.2.1 hd (mj_l_has L) hn rfl (fun rls' hl => kk rls' (mj_l_st1 (v := .null) hl hn))) k
theorem Ex_iinc {j : Nat} {n : Int} {x : Int32} (c : Int32) (ls' : mj_L) (hd : decode μ.2.1 pc = .ok (.iinc j n, 3)) (hl : ls[j]? = some (some (.int x))) (hc : Int32.ofInt n = c) (he : mj_st1 ls j (.int (x + c)) = ls') (k : Ex S μ (pc + 3) ls' st h Q) : Ex S μ pc ls st h Q := by
  subst he
  subst hc
  have hn : j < ls.length := (List.getElem?_eq_some_iff.mp hl).1
  refine mj_pure (fun C P V L kk => ?_) k
  obtain ⟨i, hi⟩ := List.getElem?_of_mem (mj_lv_mem hl)
  exact lv_iinc C.1 C.2.1 hd (mj_l_has L) hi rfl hn rfl (fun rls' hl' => kk rls' (mj_l_st1 (v := .int (x + Int32.ofInt n)) hl' hn))
theorem Ex_forget {ls' : mj_L} (hs : mj_sub ls' ls) (k : Ex S μ pc ls' st h Q) : Ex S μ pc ls st h Q := by
  obtain ⟨r, h', q, g1, g2, g⟩ := k
  exact ⟨r, h', q, g1, g2, fun p l e R s m args below meth c b base D cA C n0 z0 Q hn hz hc hl E H locs rls P Sv Lr => g p l e R s m args below meth c b base D cA C n0 z0 Q hn hz hc hl E H locs rls P Sv (mj_l_sub hs Lr)⟩
theorem Ex_mono {Q' : Option Value → mj_H → Prop} (k : Ex S μ pc ls st h Q') (hq : ∀ r h', Q' r h' → Q r h') : Ex S μ pc ls st h Q := by
  obtain ⟨r, h', q, g⟩ := k
  exact ⟨r, h', hq r h' q, g⟩
end MJR
