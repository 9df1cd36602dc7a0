/-! Rows of the small machine: new arrays, copies, calls of Object's constructor. -/
section MJN
variable {S : mj_S} {μ : mj_Y} {pc : Nat} {ls : mj_L} {st : List Value} {h : mj_H} {Q : Option Value → mj_H → Prop} {a n ci k idx : Nat}
theorem mj_V1 {base : Nat} {s : State} {H H1 : Heap} {locs : List Loc} (V : va_S (fun q => base ≤ q) s.heap H locs) (z1 : H1.size = H.size + 1) (o1 : ∀ q, q < H.size → H1[q]? = H[q]?) : va_S (fun q => base ≤ q) s.heap H1 locs :=
  ⟨Nat.le_trans V.1 (by rw [z1]; omega), fun x h1 h2 => (o1 x (Nat.lt_of_lt_of_le h1 V.1)).trans (V.2.1 x h1 h2), V.2.2⟩
/-- a new array of ints (tag 0), longs (1) or booleans (2) -/
theorem Ex_newarray {t : Nat} {aty : ArrayType} {i : Int32} (hd : decode μ.2.1 pc = .ok (.newarray aty, 2)) (hty : (t = 0 ∧ aty = .int) ∨ (t = 1 ∧ aty = .long) ∨ (t = 2 ∧ aty = .boolean)) (hw : Cond.arrayClass (newarray.typeOf aty) ∈ lw_g) (hi : ¬ i < 0) (hn : i.toNatClampNeg = n) (hb : n ≤ 1000000) (kk : Ex S μ (pc + 2) ls (.ref (mN h) :: st) (mNew h t n) Q) : Ex S μ pc ls (.int i :: st) h Q := by
  refine mj_mk (h1 := mNew h t n) (mN_new ..) (mZ_new ..) (fun {p l e R s m args below meth c b base D cA H locs cells slots Q rls} C P V L hcl hsl kk => ?_) kk
  have hts := C.2.2.2.2.2.2.2.1
  have hK : va_K D mj_classes (mj_tys cA) s := C.2.2.2.2.2.2.2.2.2.1
  refine va_newaK C.1 C.2.1 (hts _ hw) rfl hd rfl hi hn (by rcases hty with ⟨-, rfl⟩ | ⟨-, rfl⟩ | ⟨-, rfl⟩ <;> simp only [newarray.typeOf, componentBytes] <;> omega) hcl hsl P.2 fun H1 cB e1 z1 o1 hA hf => ?_
  refine kk H1 (mj_mkP P ?_ (by rw [z1, P.2]) (fun q hq => o1 q (by rw [← P.2]; exact hq))) (mj_V1 V (by rw [z1, P.2]) (fun q hq => o1 q (by rw [← P.2]; exact hq)))
  rcases hty with ⟨rfl, rfl⟩ | ⟨rfl, rfl⟩ | ⟨rfl, rfl⟩
  · have : cB = cA 0 := Option.some.inj (hf.symm.trans (hK.2 0 _ rfl).2)
    subst this; exact e1
  · have : cB = cA 1 := Option.some.inj (hf.symm.trans (hK.2 1 _ rfl).2)
    subst this; exact e1
  · have : cB = cA 2 := Option.some.inj (hf.symm.trans (hK.2 2 _ rfl).2)
    subst this; exact e1
theorem mj_nulls (cC : ClassId) (n : Nat) : ({ cls := cC, slots := Array.replicate n .null, vm := .none } : Cell) = vp_cell cC (n, .inr (.inr (.inr (.inr (fun _ => none))))) := by
  rw [vp_cell_q]
  show _ = ({ cls := cC, slots := Array.ofFn (n := n) fun _ => Value.null, vm := .none } : Cell)
  congr 1
  apply Array.ext
  · simp
  · intro j h1 h2; simp
theorem Ex_anewarray {t : Nat} {C : String} {i : Int32} (hd : decode μ.2.1 pc = .ok (.anewarray idx, 3)) (hty : (t = 4 ∧ C = RX7) ∨ (t = 5 ∧ C = RX9) ∨ (t = 6 ∧ C = RX4)) (hw : Cond.classLink μ.1.cls idx C ∈ lw_g) (hi : ¬ i < 0) (hn : i.toNatClampNeg = n) (hb : n ≤ 1000000) (kk : Ex S μ (pc + 3) ls (.ref (mN h) :: st) (mNew h t n) Q) : Ex S μ pc ls (.int i :: st) h Q := by
  subst hn
  refine mj_mk (h1 := mNew h t i.toNatClampNeg) (mN_new ..) (mZ_new ..) (fun {p l e R s m args below meth c b base D cA H locs cells slots Q rls} Cx P V L hcl hsl kk => ?_) kk
  have hts := Cx.2.2.2.2.2.2.2.1
  have hK : va_K D mj_classes (mj_tys cA) s := Cx.2.2.2.2.2.2.2.2.2.1
  have hN := Cx.2.2.2.2.2.2.2.2.1
  have hover : va_AO C s := by rcases hty with ⟨-, rfl⟩ | ⟨-, rfl⟩ | ⟨-, rfl⟩ <;> first | exact hN.2.2.2.1 | exact hN.2.2.2.2.1 | exact hN.2.2.2.2.2.1
  have hk : (mj_tys cA)[t]? = some (cA t, .object C) := by rcases hty with ⟨rfl, rfl⟩ | ⟨rfl, rfl⟩ | ⟨rfl, rfl⟩ <;> rfl
  refine W.anew (C := C) Cx.1 Cx.2.1 Cx.2.2.2.1 (hts _ hw) (va_AO.use hover) rfl hd rfl hi (by omega) hcl hsl fun cB kA comp f1 f2 f3 f4 => ?_
  obtain ⟨_, _, -, -, -, g4⟩ := (hK.2 t _ hk).2
  have hcB : cB = cA t := Option.some.inj (f1.symm.trans g4)
  subst hcB
  have eH : Value.ref H.size = mj_v b base (.ref (mN h)) := by rw [P.2]; rfl
  have k2 := kk (H.push { cls := cA t, slots := Array.replicate i.toNatClampNeg .null, vm := .none }) (mj_mkP P ?_ (by simp) (fun q hq => by rw [Array.getElem?_push, if_neg (Nat.ne_of_lt hq)])) (mj_V1 V (by simp) (fun q hq => by rw [Array.getElem?_push, if_neg (Nat.ne_of_lt hq)]))
  · show W _ _ _ _ _ _ _ _ _ _ _ _ _ _ _ (F0 m (pc + 3) rls (Value.ref H.size :: _))
    rw [eH]
    exact k2
  · have e2 : mj_e base cA (t, i.toNatClampNeg) (fun _ => 0) (fun _ => 0) (fun _ => none) = .inl (cA t, i.toNatClampNeg, .inr (.inr (.inr (.inr (fun _ => none))))) := by
      rcases hty with ⟨rfl, -⟩ | ⟨rfl, -⟩ | ⟨rfl, -⟩ <;> rfl
    rw [e2]
    show (H.push _)[base + mN h]? = some (vp_cell _ _)
    rw [← P.2, ← mj_nulls]
    simp
theorem Ex_anewarrayA {i : Int32} (hd : decode μ.2.1 pc = .ok (.anewarray idx, 3)) (hw : Cond.classLink μ.1.cls idx "[I" ∈ lw_g) (hi : ¬ i < 0) (hn : i.toNatClampNeg = n) (hb : n ≤ 1000000) (kk : Ex S μ (pc + 3) ls (.ref (mN h) :: st) (mNew h 3 n) Q) : Ex S μ pc ls (.int i :: st) h Q := by
  subst hn
  refine mj_mk (h1 := mNew h 3 i.toNatClampNeg) (mN_new ..) (mZ_new ..) (fun {p l e R s m args below meth c b base D cA H locs cells slots Q rls} Cx P V L hcl hsl kk => ?_) kk
  have hts := Cx.2.2.2.2.2.2.2.1
  have hK : va_K D mj_classes (mj_tys cA) s := Cx.2.2.2.2.2.2.2.2.2.1
  have hN := Cx.2.2.2.2.2.2.2.2.1
  refine W.anewA (t := .int) Cx.1 Cx.2.1 Cx.2.2.2.1 (hts _ hw) hN.2.2.2.2.2.2.1 rfl hd rfl hi (by omega) hcl hsl fun cB kA comp f1 f2 f3 f4 => ?_
  have hcB : cB = cA 3 := Option.some.inj (f1.symm.trans (hK.2 3 _ rfl).2)
  subst hcB
  have eH : Value.ref H.size = mj_v b base (.ref (mN h)) := by rw [P.2]; rfl
  have k2 := kk (H.push { cls := cA 3, slots := Array.replicate i.toNatClampNeg .null, vm := .none }) (mj_mkP P ?_ (by simp) (fun q hq => by rw [Array.getElem?_push, if_neg (Nat.ne_of_lt hq)])) (mj_V1 V (by simp) (fun q hq => by rw [Array.getElem?_push, if_neg (Nat.ne_of_lt hq)]))
  · show W _ _ _ _ _ _ _ _ _ _ _ _ _ _ _ (F0 m (pc + 3) rls (Value.ref H.size :: _))
    rw [eH]
    exact k2
  · show (H.push _)[base + mN h]? = some (vp_cell (cA 3) (i.toNatClampNeg, .inr (.inr (.inr (.inr (fun _ => none))))))
    rw [← P.2, ← mj_nulls]
    simp
theorem Ex_checkcastA (hd : decode μ.2.1 pc = .ok (.checkcast idx, 3)) (hw : Cond.classLink μ.1.cls idx "[I" ∈ lw_g) (ht : mT h a = some (0, n)) (kk : Ex S μ (pc + 3) ls (.ref a :: st) h Q) : Ex S μ pc ls (.ref a :: st) h Q :=
  mj_pure (fun {p l e R s m args below meth c b base D cA H locs cells slots Q rls} C P V L kk => va_castA C.1 C.2.1 C.2.2.2.1 (C.2.2.2.2.2.2.2.1 _ hw) P.1 a (mj_w_get ht) (va_nm_int (C.2.2.2.2.2.2.2.2.2.1.2 0 _ rfl).2) hd (kk _ L)) kk
def mj_cat (st : List Value) : Nat := (st.map fun v => v.category).sum
theorem mj_cat_map (b base : Nat) (st : List Value) : ((st.map (mj_v b base)).map fun v => v.category).sum = mj_cat st := by
  unfold mj_cat
  rw [List.map_map]
  congr 1
  apply List.map_congr_left
  intro v _
  exact mj_v_cat b base v
theorem Ex_objInit (hd : decode μ.2.1 pc = .ok (.invokespecial idx, 3)) (hw : Cond.methodLink μ.1.cls idx objectInit ∈ lw_g) (hw2 : Cond.instanceMethod objectInit ∈ lw_g) (hw3 : Cond.code objectInit ⟨#[0xb1]⟩ 1 none ∈ lw_g) (hl : ls.length = μ.2.2.1) (hr : 1 ≤ μ.2.2.2.2.1 ∧ mj_cat st + 12 ≤ μ.2.2.2.2.2) (kk : Ex S μ (pc + 3) ls st h Q) : Ex S μ pc ls (.ref a :: st) h Q := by
  refine mj_pure (fun {p l e R s m args below meth c b base D cA H locs cells slots Q rls} C P V L kk => ?_) kk
  have hts := C.2.2.2.2.2.2.2.1
  refine W.objInit C.1 C.2.1 C.2.2.2.1 (hts _ hw) (hts _ hw2) (hts _ hw3) rfl (by show rls.size = _; rw [L.1, C.2.2.1, hl]) rfl hd (Nat.le_trans hr.1 C.2.2.2.2.2.2.2.2.2.2.1) ?_ (kk _ L)
  have hlo := C.2.2.2.2.2.2.2.2.2.2.2.1
  have e := mj_cat_map b base st
  show 2 * 0 + _ + 12 ≤ _
  rw [e]
  omega
theorem mj_nn (z : Int32) (hz : ¬ z < 0) : z.toInt = (z.toNatClampNeg : Int) := by
  have hz0 : (0 : Int) ≤ z.toInt := by
    have := Int32.not_lt.mp hz
    simpa using Int32.le_iff_toInt_le.mp this
  show z.toInt = ((z.toInt.toNat : Nat) : Int)
  omega
/-- System.arraycopy over arrays of ints -/
theorem Ex_arraycopy {n1 x y : Nat} {sp dp m : Int32} (hd : decode μ.2.1 pc = .ok (.invokestatic idx, 3)) (hw : Cond.methodLink μ.1.cls idx arraycopyName ∈ lw_g) (hw2 : Cond.native arraycopyName ∈ lw_g) (hw3 : Cond.static arraycopyName ∈ lw_g) (hw4 : Cond.initialized "java/lang/System" ∈ lw_g) (hl : ls.length = μ.2.2.1) (hr : 1 ≤ μ.2.2.2.2.1 ∧ mj_cat st + 18 ≤ μ.2.2.2.2.2)
    (hx : mT h x = some (0, n)) (hy : mT h y = some (0, n1)) (h1 : ¬ sp < 0) (h2 : ¬ dp < 0) (h3 : ¬ m < 0) (h4 : sp.toNatClampNeg + m.toNatClampNeg ≤ n) (h5 : dp.toNatClampNeg + m.toNatClampNeg ≤ n1)
    (kk : Ex S μ (pc + 3) ls st (wA h y (va_cpy (mI h x) (mI h y) sp.toNatClampNeg dp.toNatClampNeg m.toNatClampNeg)) Q) : Ex S μ pc ls (.int m :: .int dp :: .ref y :: .int sp :: .ref x :: st) h Q := by
  refine mj_wr (h1 := wA h y (va_cpy (mI h x) (mI h y) sp.toNatClampNeg dp.toNatClampNeg m.toNatClampNeg)) rfl (fun {p l e R s m0 args below meth c b base D cA H locs cells slots Q rls} C P V L kk => ?_) kk
  have hts := C.2.2.2.2.2.2.2.1
  have hK : va_K D mj_classes (mj_tys cA) s := C.2.2.2.2.2.2.2.2.2.1
  have hc0 : H[base + x]? = some (vp_cell (cA 0) (n, .inl (mI h x))) := P.1 x _ (mj_w_get hx)
  have hc1 : H[base + y]? = some (vp_cell (cA 0) (n1, .inl (mI h y))) := P.1 y _ (mj_w_get hy)
  obtain ⟨-, k0, hk0, cm0, hkk0⟩ := (hK.2 0 _ rfl).1 n (fun j => .int (mI h x j))
  have e1 : copied (vp_cell (cA 0) (n, .inl (mI h x))) (vp_cell (cA 0) (n1, .inl (mI h y))) sp dp m = vp_cell (cA 0) (n1, .inl (va_cpy (mI h x) (mI h y) sp.toNatClampNeg dp.toNatClampNeg m.toNatClampNeg)) := va_copied (fun z => .int z) (cA 0) (cA 0) (mI h x) (mI h y) h4
  have hcat := mj_cat_map b base st
  have hlo := C.2.2.2.2.2.2.2.2.2.2.2.1
  intro T hT X
  obtain ⟨vm', X', step⟩ := X.arraycopy C.1 C.2.2.2.1 (hts _ hw) (hts _ hw2) (hts _ hw3) (hts _ hw4) (src := base + x) (dst := base + y) (cs := vp_cell (cA 0) (n, .inl (mI h x))) (cd := vp_cell (cA 0) (n1, .inl (mI h y))) (srcPos := sp) (destPos := dp) (n := m) (by rw [hT]; exact hc0) (by rw [hT]; exact hc1)
    (fun _ h => by cases h) (fun _ h => by cases h) (fun h => by cases h) (fun h => by cases h) hk0 hk0 hkk0 hkk0 (by simp [refKind]) h1 h2 h3
    (by rw [mj_nn sp h1, mj_nn m h3]; show ¬ _ > ((arrV (cA 0) n (fun j => .int (mI h x j))).slots.size : Int); rw [arrV_size]; omega)
    (by rw [mj_nn dp h2, mj_nn m h3]; show ¬ _ > ((arrV (cA 0) n1 (fun j => .int (mI h y j))).slots.size : Int); rw [arrV_size]; omega)
    (fun vm₁ _ i hi => by
      have e : (vp_cell (cA 0) (n, .inl (mI h x))).slots.getD (sp.toNatClampNeg + i) .null = .int (mI h x (sp.toNatClampNeg + i)) := by
        show (arrV (cA 0) n (fun j => .int (mI h x j))).slots.getD _ _ = _
        rw [Array.getD_eq_getD_getElem?, arrV_read _ _ (by omega)]
        rfl
      rw [e]
      exact ⟨rfl, trivial⟩)
    (g := F0 m0 pc rls (List.map (mj_v b base) (.int m :: .int dp :: .ref y :: .int sp :: .ref x :: st))) rfl (by show rls.size = _; rw [L.1, C.2.2.1, hl]) (rest := List.map (mj_v b base) st) rfl (by rw [C.2.1]; exact hd) (Nat.le_trans hr.1 C.2.2.2.2.2.2.2.2.2.2.1) (by show 2 * 0 + _ + (7 + 11) ≤ _; rw [hcat]; omega)
  rw [e1] at X' step
  have hl : base + y < H.size := (Array.getElem?_eq_some_iff.mp hc1).1
  have oq : ∀ q : Nat, q ≠ base + y → (H.setIfInBounds (base + y) (vp_cell (cA 0) (n1, .inl (va_cpy (mI h x) (mI h y) sp.toNatClampNeg dp.toNatClampNeg m.toNatClampNeg))))[q]? = H[q]? := fun q hq => by simp [Array.getElem?_setIfInBounds, Ne.symm hq]
  obtain ⟨t, a1, b1⟩ := kk (H.setIfInBounds (base + y) (vp_cell (cA 0) (n1, .inl (va_cpy (mI h x) (mI h y) sp.toNatClampNeg dp.toNatClampNeg m.toNatClampNeg)))) _ (mj_wrP P hy rfl mj_oI (by
      rw [mj_sI]
      show (H.setIfInBounds (base + y) _)[base + y]? = some (vp_cell (cA 0) _)
      simp [Array.getElem?_setIfInBounds, hl]) (by simp) oq) ⟨by simp; exact V.1, fun q g1 g2 => by
      rw [oq q (fun e => g2 (by show base ≤ q; omega))]
      exact V.2.1 q g1 g2, fun q hq => by
      rcases List.mem_append.mp hq with h | h
      · exact V.2.2 q h
      · obtain ⟨z, -, hz⟩ := List.mem_map.mp h
        rw [← hz]
        show base ≤ base + y
        omega⟩ _ (by rw [← hT]; rfl) X'
  exact ⟨t, step t a1, b1⟩
/-- clone of an array of ints -/
theorem Ex_clone (hd : decode μ.2.1 pc = .ok (.invokevirtual idx, 3)) (hw : Cond.methodLink μ.1.cls idx ⟨"[I", "clone", "()Ljava/lang/Object;"⟩ ∈ lw_g) (hw2 : Cond.sameMethod "[I" "java/lang/Object" "clone" "()Ljava/lang/Object;" ∈ lw_g) (hw3 : Cond.native ⟨"java/lang/Object", "clone", "()Ljava/lang/Object;"⟩ ∈ lw_g) (hw4 : Cond.instanceMethod ⟨"java/lang/Object", "clone", "()Ljava/lang/Object;"⟩ ∈ lw_g) (hw5 : Cond.selects "[I" ⟨"[I", "clone", "()Ljava/lang/Object;"⟩ ⟨"java/lang/Object", "clone", "()Ljava/lang/Object;"⟩ ∈ lw_g)
    (hl : ls.length = μ.2.2.1) (hr : 1 ≤ μ.2.2.2.2.1 ∧ mj_cat st + 14 ≤ μ.2.2.2.2.2) (ht : mT h a = some (0, n))
    (kk : Ex S μ (pc + 3) ls (.ref (mN h) :: st) (wA (mNew h 0 n) (mN h) (mI h a)) Q) : Ex S μ pc ls (.ref a :: st) h Q := by
  refine mj_mk (h1 := wA (mNew h 0 n) (mN h) (mI h a)) (n := n) (by rw [← mN_new h 0 n]; rfl) (by rw [← mZ_new h 0 n]; rfl) (fun {p l e R s m args below meth c b base D cA H locs cells slots Q rls} C P V L hcl hsl kk => ?_) kk
  have hts := C.2.2.2.2.2.2.2.1
  have hK : va_K D mj_classes (mj_tys cA) s := C.2.2.2.2.2.2.2.2.2.1
  have hnm := va_nm_int (hK.2 0 _ rfl).2
  have hcat := mj_cat_map b base st
  have hlo := C.2.2.2.2.2.2.2.2.2.2.2.1
  obtain ⟨c0, t0', f1, f2, f3⟩ := Cond.castable_spec (va_Nw.use (A := args) rfl C.2.2.2.2.2.2.2.2.1.2.2.2.2.2.2.2)
  cases hnm.symm.trans f1
  have hcell : H[base + a]? = some (vp_cell (cA 0) (n, .inl (mI h a))) := P.1 a _ (mj_w_get ht)
  intro T hT X
  obtain ⟨-, kA, hkA, comp, hkind⟩ := State.isArrayOf_alike X.warmed.alike ((hK.2 0 _ rfl).1 0 (fun _ => .null))
  obtain ⟨-, kS, hkS, compS, hkindS⟩ := (hK.2 0 _ rfl).1 0 (fun _ => .null)
  have hsz : (vp_cell (cA 0) (n, .inl (mI h a))).slots.size = n := arrV_size _ _ _
  obtain ⟨vm', X', st0⟩ := X.cloneArray C.1 C.2.2.2.1 (hts _ hw) (hts _ hw2) (hts _ hw3) (hts _ hw4) (hts _ hw5) (a := base + a) (cell := vp_cell (cA 0) (n, .inl (mI h a))) (by rw [hT]; exact hcell) (fun k h => by cases h) (fun h => by cases h) hnm f2 f3
    (fun i v hv => by
      have hk' : T.vm.classes[cA 0]? = some kA := hkA
      have hv' : fits .int v = true := va_fit (cA := cA 0) (n := n) (F := fun j => .int (mI h a j)) (fun _ _ => rfl) i v hv
      simpa [State.fitsSlot, State.slotType?, hk', hkind, vp_cell, arrV] using hv')
    (g := F0 m pc rls (List.map (mj_v b base) (.ref a :: st))) rfl (by show rls.size = _; rw [L.1, C.2.2.1, hl]) rfl (by rw [C.2.1]; exact hd) (Nat.le_trans hr.1 C.2.2.2.2.2.2.2.2.2.2.1) (by show 2 * 0 + _ + 14 ≤ _; rw [hcat]; omega) hcl (by rw [hsz]; exact hsl) (hloader := Vm.clonesLoader_of_array hkS hkindS)
  rw [hsz] at X'
  have P1 : mj_P base D cA (wA (mNew h 0 n) (mN h) (mI h a)) (H.push (vp_cell (cA 0) (n, .inl (mI h a)))) := by
    have P0 : mj_P base D cA (mNew h 0 n) (H.push (vp_cell (cA 0) (n, .inl (fun _ => 0)))) := mj_mkP P (by
      show (H.push _)[base + mN h]? = some (vp_cell (cA 0) _)
      rw [← P.2]; simp) (by simp) (fun q hq => by rw [Array.getElem?_push, if_neg (Nat.ne_of_lt hq)])
    refine mj_wrP P0 (mT_new_self h 0 n) rfl mj_oI ?_ (by simp) (fun q hq => ?_)
    · rw [mj_sI]
      show (H.push _)[base + mN h]? = some (vp_cell (cA 0) _)
      rw [← P.2]; simp
    · rw [← P.2] at hq
      rw [Array.getElem?_push, Array.getElem?_push, if_neg hq, if_neg hq]
  obtain ⟨t, b1, b2⟩ := kk (H.push (vp_cell (cA 0) (n, .inl (mI h a)))) P1 (mj_V1 V (by simp) (fun q hq => by rw [Array.getElem?_push, if_neg (Nat.ne_of_lt hq)])) ((T.setVm vm').pushCell (vp_cell (cA 0) (n, .inl (mI h a)))) (by rw [← hT]; rfl) X'
  refine ⟨t, st0 t ?_, b2⟩
  have eH : Value.ref T.heap.size = mj_v b base (.ref (mN h)) := by rw [hT, P.2]; rfl
  rw [eH]
  exact b1
end MJN
