/-! Rows of the small machine that read and write cells. -/
section MJP
variable {base : Nat} {D : va_G} {cA : Nat → ClassId} {h h1 : mj_H} {H H1 : Heap}
theorem mj_wrP {a : Nat} {t : Nat × Nat} (P : mj_P base D cA h H) (ht : mT h a = some t) (hT : h1.1 = h.1) (ho : ∀ k, k ≠ a → mI h1 k = mI h k ∧ mL h1 k = mL h k ∧ mR h1 k = mR h k)
    (he : va_at D mj_classes (base + a, mj_e base cA t (mI h1 a) (mL h1 a) (mR h1 a)) H1) (z : H1.size = H.size) (oq : ∀ q, q ≠ base + a → H1[q]? = H[q]?) : mj_P base D cA h1 H1 := by
  refine ⟨?_, by rw [z, P.2]; unfold mN; rw [hT]⟩
  rw [← mj_w_set ht hT rfl ho]
  exact P.1.set mj_w_D (mj_w_get ht) he oq
theorem mj_mkP {t n : Nat} (P : mj_P base D cA h H) (he : va_at D mj_classes (base + mN h, mj_e base cA (t, n) (fun _ => 0) (fun _ => 0) (fun _ => none)) H1) (z : H1.size = H.size + 1) (oq : ∀ q, q < H.size → H1[q]? = H[q]?) : mj_P base D cA (mNew h t n) H1 := by
  refine ⟨?_, by rw [z, P.2, mN_new]; omega⟩
  rw [mj_w_new]
  refine (P.1.kept (fun k x hx => oq x.1 ((P.1 k x hx).lt))).app (fun k x hx => ?_)
  have hz : k < 1 := (List.getElem?_eq_some_iff.mp hx).1
  rw [show k = 0 by omega] at hx
  cases hx
  exact he
theorem mj_atA {a n : Nat} {f : Nat → Int32} (P : mj_P base D cA h H) (ht : mT h a = some (0, n)) : (mj_w base cA h)[a]? = some (base + a, .inl (cA 0, n, .inl (mI h a))) := mj_w_get ht
end MJP
def va_upd_id (f : Nat → Int32) (k : Nat) (x : Int32) : va_up f k x = upd f k x := rfl
theorem mj_oI {h : mj_H} {a : Nat} {f : Nat → Int32} : ∀ k, k ≠ a → mI (wA h a f) k = mI h k ∧ mL (wA h a f) k = mL h k ∧ mR (wA h a f) k = mR h k := fun k hk => ⟨by simp [mI, wA, va_up, hk], rfl, rfl⟩
theorem mj_oL {h : mj_H} {a i : Nat} {v : Int64} : ∀ k, k ≠ a → mI (wL h a i v) k = mI h k ∧ mL (wL h a i v) k = mL h k ∧ mR (wL h a i v) k = mR h k := fun k hk => ⟨rfl, by simp [mL, wL, va_up, hk], rfl⟩
theorem mj_oR {h : mj_H} {a i : Nat} {v : Option Nat} : ∀ k, k ≠ a → mI (wR h a i v) k = mI h k ∧ mL (wR h a i v) k = mL h k ∧ mR (wR h a i v) k = mR h k := fun k hk => ⟨rfl, rfl, by simp [mR, wR, va_up, hk]⟩
theorem mj_sI (h : mj_H) (a : Nat) (f : Nat → Int32) : mI (wA h a f) a = f := by simp [mI, wA, va_up]
theorem mj_sL (h : mj_H) (a i : Nat) (v : Int64) : mL (wL h a i v) a = va_up (mL h a) i v := by simp [mL, wL, va_up]
theorem mj_sR (h : mj_H) (a i : Nat) (v : Option Nat) : mR (wR h a i v) a = va_up (mR h a) i v := by simp [mR, wR, va_up]
theorem mj_lt {i : Int32} {n : Nat} (h : vp_in i n) : i.toNatClampNeg < n := Nat.not_le.mp fun q => h (Or.inr q)
section MJA
variable {S : mj_S} {μ : mj_Y} {pc : Nat} {ls : mj_L} {st : List Value} {h : mj_H} {Q : Option Value → mj_H → Prop} {a n : Nat} {i : Int32}
theorem Ex_iaload (hd : decode μ.2.1 pc = .ok (.iaload, 1)) (ht : mT h a = some (0, n)) (hi : vp_in i n) (k : Ex S μ (pc + 1) ls (.int (mI h a i.toNatClampNeg) :: st) h Q) : Ex S μ pc ls (.int i :: .ref a :: st) h Q :=
  mj_pure (fun C P V L kk => va_iald C.1 C.2.1 C.2.2.2.2.2.2.2.2.2.1 P.1 a 0 (mj_w_get ht) rfl hi hd (kk _ L)) k
theorem Ex_baload (hd : decode μ.2.1 pc = .ok (.baload, 1)) (ht : mT h a = some (2, n)) (hi : vp_in i n) (k : Ex S μ (pc + 1) ls (.int (mI h a i.toNatClampNeg) :: st) h Q) : Ex S μ pc ls (.int i :: .ref a :: st) h Q :=
  mj_pure (fun C P V L kk => va_zald C.1 C.2.1 C.2.2.2.2.2.2.2.2.2.1 P.1 a 2 (mj_w_get ht) rfl hi hd (kk _ L)) k
theorem Ex_laload (hd : decode μ.2.1 pc = .ok (.laload, 1)) (ht : mT h a = some (1, n)) (hi : vp_in i n) (k : Ex S μ (pc + 1) ls (.long (mL h a i.toNatClampNeg) :: st) h Q) : Ex S μ pc ls (.int i :: .ref a :: st) h Q :=
  mj_pure (fun C P V L kk => va_lald C.1 C.2.1 C.2.2.2.2.2.2.2.2.2.1 P.1 a 1 (mj_w_get ht) rfl hi hd (kk _ L)) k
theorem mj_rfv (b base : Nat) (r : Option Nat) : va_rf (r.map (fun a => base + a)) = mj_v b base (va_rf r) := by cases r <;> rfl
theorem Ex_aaload {t : Nat} (hd : decode μ.2.1 pc = .ok (.aaload, 1)) (ht : mT h a = some (t, n)) (htt : 3 ≤ t ∧ t ≤ 6) (hi : vp_in i n) {v : Value} (hv : va_rf (mR h a i.toNatClampNeg) = v) (k : Ex S μ (pc + 1) ls (v :: st) h Q) : Ex S μ pc ls (.int i :: .ref a :: st) h Q := by
  subst hv
  refine mj_pure (fun {p l e R s m args below meth c b base D cA H locs cells slots Q rls} C P V L kk => ?_) k
  have hlt := mj_lt hi
  have hK : va_K D mj_classes (mj_tys cA) s := C.2.2.2.2.2.2.2.2.2.1
  have e : (mj_w base cA h)[a]? = some (base + a, .inl (cA t, n, .inr (.inr (.inr (.inr (mj_q base (mR h a))))))) := by
    rw [mj_w_get ht]
    rcases (show t = 3 ∨ t = 4 ∨ t = 5 ∨ t = 6 by omega) with rfl | rfl | rfl | rfl <;> rfl
  have hty : ∃ ty : FieldType, (mj_tys cA)[t]? = some (cA t, ty) ∧ ty.isReference = true := by
    rcases (show t = 3 ∨ t = 4 ∨ t = 5 ∨ t = 6 by omega) with rfl | rfl | rfl | rfl <;> exact ⟨_, rfl, rfl⟩
  obtain ⟨ty, h1, h2⟩ := hty
  refine W.aald (v := mj_v b base (va_rf (mR h a i.toNatClampNeg))) (ty := ty) C.1 C.2.1 (P.1 a _ e) ((hK.2 t _ h1).1 n (fun j => va_rf (mj_q base (mR h a) j))) h2 (fun q => by cases q) (by show ¬ (i < 0 ∨ (arrV _ _ _).slots.size ≤ _); rw [arrV_size]; exact hi) ?_ rfl rfl hd (kk _ L)
  show (arrV _ _ _).slots[_]? = _
  rw [arrV_read _ _ hlt, ← mj_rfv b base]
  rfl
theorem Ex_arraylength {t : Nat} (hd : decode μ.2.1 pc = .ok (.arraylength, 1)) (ht : mT h a = some (t, n)) (htt : t ≤ 6) (k : Ex S μ (pc + 1) ls (.int (Int32.ofNat n) :: st) h Q) : Ex S μ pc ls (.ref a :: st) h Q := by
  refine mj_pure (fun {p l e R s m args below meth c b base D cA H locs cells slots Q rls} C P V L kk => ?_) k
  have hK : va_K D mj_classes (mj_tys cA) s := C.2.2.2.2.2.2.2.2.2.1
  rcases (show t = 0 ∨ t = 1 ∨ t = 2 ∨ t = 3 ∨ t = 4 ∨ t = 5 ∨ t = 6 by omega) with rfl | rfl | rfl | rfl | rfl | rfl | rfl
  · exact va_alen C.1 C.2.1 hK P.1 a 0 (mj_w_get ht) rfl rfl hd (kk _ L)
  · exact va_alen C.1 C.2.1 hK P.1 a 1 (mj_w_get ht) rfl rfl hd (kk _ L)
  · exact va_alen C.1 C.2.1 hK P.1 a 2 (mj_w_get ht) rfl rfl hd (kk _ L)
  · exact va_alen C.1 C.2.1 hK P.1 a 3 (mj_w_get ht) rfl rfl hd (kk _ L)
  · exact va_alen C.1 C.2.1 hK P.1 a 4 (mj_w_get ht) rfl rfl hd (kk _ L)
  · exact va_alen C.1 C.2.1 hK P.1 a 5 (mj_w_get ht) rfl rfl hd (kk _ L)
  · exact va_alen C.1 C.2.1 hK P.1 a 6 (mj_w_get ht) rfl rfl hd (kk _ L)
theorem Ex_sload {f : UInt32} (hμ : μ.1 = yL_law) (hd : decode μ.2.1 pc = .ok (.iaload, 1)) (hi : vp_in i S.1) (k : Ex S μ (pc + 1) ls (.int (S.2 i.toNatClampNeg) :: st) h Q) : Ex S μ pc ls (.int i :: .float f :: st) h Q :=
  mj_pure (fun {p l e R s m args below meth c b base D cA H locs cells slots Q rls} C P V L kk => by
    have hX := C.2.2.2.2.2.2.2.2.2.2.2.2.2 hμ
    have hb := C.2.2.2.2.2.2.2.2.2.2.2.2.1
    exact va_sld C.1 C.2.1 hX.1 (Nat.lt_of_lt_of_le hX.2 hb) (Nat.not_le.mpr hX.2) V hi hd (kk _ L)) k
theorem Ex_slen {f : UInt32} (hμ : μ.1 = yL_law) (hd : decode μ.2.1 pc = .ok (.arraylength, 1)) (k : Ex S μ (pc + 1) ls (.int (Int32.ofNat S.1) :: st) h Q) : Ex S μ pc ls (.float f :: st) h Q :=
  mj_pure (fun {p l e R s m args below meth c b base D cA H locs cells slots Q rls} C P V L kk => by
    have hX := C.2.2.2.2.2.2.2.2.2.2.2.2.2 hμ
    have hb := C.2.2.2.2.2.2.2.2.2.2.2.2.1
    exact va_slen C.1 C.2.1 hX.1 (Nat.lt_of_lt_of_le hX.2 hb) (Nat.not_le.mpr hX.2) V hd (kk _ L)) k
theorem Ex_iastore {x : Int32} (hd : decode μ.2.1 pc = .ok (.iastore, 1)) (ht : mT h a = some (0, n)) (hi : vp_in i n) (k : Ex S μ (pc + 1) ls st (wI h a i.toNatClampNeg x) Q) : Ex S μ pc ls (.int x :: .int i :: .ref a :: st) h Q := by
  refine mj_wr (h1 := wI h a i.toNatClampNeg x) rfl (fun {p l e R s m args below meth c b base D cA H locs cells slots Q rls} C P V L kk => ?_) k
  have hK : va_K D mj_classes (mj_tys cA) s := C.2.2.2.2.2.2.2.2.2.1
  refine W.iast (x := x) C.1 C.2.1 (P.1 a _ (mj_w_get ht)) ((hK.2 0 _ rfl).1 n (fun j => .int (mI h a j))) (fun q => by cases q) (by show ¬ (i < 0 ∨ (arrV _ _ _).slots.size ≤ _); rw [arrV_size]; exact hi) rfl rfl hd fun H1 e z oq => ?_
  refine kk H1 _ (mj_wrP P ht rfl mj_oI ?_ z oq) (V.put z oq (by show base ≤ base + a; omega))
  show H1[base + a]? = some (vp_cell _ _)
  rw [e]
  show some ((vp_cell (cA 0) (n, Sum.inl (mI h a))).setSlot _ _) = some (vp_cell (cA 0) (n, Sum.inl (mI (wI h a i.toNatClampNeg x) a)))
  rw [show mI (wI h a i.toNatClampNeg x) a = va_up (mI h a) i.toNatClampNeg x from mj_sI _ _ _, vp_cell_i, vp_cell_i, arrV_store]
  congr 2
  funext q
  by_cases hq : q = i.toNatClampNeg <;> simp [updV, va_up, hq]
theorem Ex_bastore {x : Int32} (hd : decode μ.2.1 pc = .ok (.bastore, 1)) (ht : mT h a = some (2, n)) (hi : vp_in i n) (hx : x = 0 ∨ x = 1) (k : Ex S μ (pc + 1) ls st (wI h a i.toNatClampNeg x) Q) : Ex S μ pc ls (.int x :: .int i :: .ref a :: st) h Q := by
  refine mj_wr (h1 := wI h a i.toNatClampNeg x) rfl (fun {p l e R s m args below meth c b base D cA H locs cells slots Q rls} C P V L kk => ?_) k
  have hK : va_K D mj_classes (mj_tys cA) s := C.2.2.2.2.2.2.2.2.2.1
  refine W.zast (x := x) C.1 C.2.1 (P.1 a _ (mj_w_get ht)) ((hK.2 2 _ rfl).1 n (fun j => .int (mI h a j))) (fun q => by cases q) (by show ¬ (i < 0 ∨ (arrV _ _ _).slots.size ≤ _); rw [arrV_size]; exact hi) rfl rfl hd fun H1 e z oq => ?_
  refine kk H1 _ (mj_wrP P ht rfl mj_oI ?_ z oq) (V.put z oq (by show base ≤ base + a; omega))
  show H1[base + a]? = some (vp_cell _ _)
  rw [e]
  have hnx : narrow .boolean (.int x) = .int x := by rcases hx with rfl | rfl <;> rfl
  show some ((vp_cell (cA 2) (n, Sum.inl (mI h a))).setSlot _ _) = some (vp_cell (cA 2) (n, Sum.inl (mI (wI h a i.toNatClampNeg x) a)))
  rw [show mI (wI h a i.toNatClampNeg x) a = va_up (mI h a) i.toNatClampNeg x from mj_sI _ _ _, vp_cell_i, vp_cell_i, arrV_store, hnx]
  congr 2
  funext q
  by_cases hq : q = i.toNatClampNeg <;> simp [updV, va_up, hq]
theorem Ex_lastore {x : Int64} (hd : decode μ.2.1 pc = .ok (.lastore, 1)) (ht : mT h a = some (1, n)) (hi : vp_in i n) (k : Ex S μ (pc + 1) ls st (wL h a i.toNatClampNeg x) Q) : Ex S μ pc ls (.long x :: .int i :: .ref a :: st) h Q := by
  refine mj_wr (h1 := wL h a i.toNatClampNeg x) rfl (fun {p l e R s m args below meth c b base D cA H locs cells slots Q rls} C P V L kk => ?_) k
  have hK : va_K D mj_classes (mj_tys cA) s := C.2.2.2.2.2.2.2.2.2.1
  refine W.last (x := x) C.1 C.2.1 (P.1 a _ (mj_w_get ht)) ((hK.2 1 _ rfl).1 n (fun j => .long (mL h a j))) (fun q => by cases q) (by show ¬ (i < 0 ∨ (arrV _ _ _).slots.size ≤ _); rw [arrV_size]; exact hi) rfl rfl hd fun H1 e z oq => ?_
  refine kk H1 _ (mj_wrP P ht rfl mj_oL ?_ z oq) (V.put z oq (by show base ≤ base + a; omega))
  show H1[base + a]? = some (vp_cell _ _)
  rw [e]
  show some ((vp_cell (cA 1) (n, Sum.inr (Sum.inl (mL h a)))).setSlot _ _) = some (vp_cell (cA 1) (n, Sum.inr (Sum.inl (mL (wL h a i.toNatClampNeg x) a))))
  rw [mj_sL, vp_cell_l, vp_cell_l, arrV_store]
  congr 2
  funext q
  by_cases hq : q = i.toNatClampNeg <;> simp [updV, va_up, hq]
/-- an object into an array of its class -/
theorem Ex_aastore {t ci v : Nat} {r : vw_C} {w : Nat} (hd : decode μ.2.1 pc = .ok (.aastore, 1)) (ht : mT h a = some (t, n)) (htt : 4 ≤ t ∧ t ≤ 6) (hv : mT h v = some (10 + ci, w)) (hci : (t = 4 ∧ ci = 6) ∨ (t = 5 ∧ ci = 8) ∨ (t = 6 ∧ ci = 3)) (hi : vp_in i n) (k : Ex S μ (pc + 1) ls st (wR h a i.toNatClampNeg (some v)) Q) : Ex S μ pc ls (.ref v :: .int i :: .ref a :: st) h Q := by
  refine mj_wr (h1 := wR h a i.toNatClampNeg (some v)) rfl (fun {p l e R s m args below meth c b base D cA H locs cells slots Q rls} C P V L kk => ?_) k
  have hK : va_K D mj_classes (mj_tys cA) s := C.2.2.2.2.2.2.2.2.2.1
  have hlt := mj_lt hi
  have h0 : ¬ i < 0 := fun q => hi (Or.inl q)
  have e : (mj_w base cA h)[a]? = some (base + a, .inl (cA t, n, .inr (.inr (.inr (.inr (mj_q base (mR h a))))))) := by
    rw [mj_w_get ht]
    rcases (show t = 4 ∨ t = 5 ∨ t = 6 by omega) with rfl | rfl | rfl <;> rfl
  have ev : (mj_w base cA h)[v]? = some (base + v, .inr (ci, mj_fs base ci w (mI h v) (mR h v))) := by
    rw [mj_w_get hv]
    rcases hci with ⟨-, rfl⟩ | ⟨-, rfl⟩ | ⟨-, rfl⟩ <;> rfl
  have hty : ∃ r : vw_C, mj_classes[ci]? = some r ∧ (mj_tys cA)[t]? = some (cA t, .object r.1) := by
    rcases hci with ⟨rfl, rfl⟩ | ⟨rfl, rfl⟩ | ⟨rfl, rfl⟩ <;> exact ⟨_, rfl, rfl⟩
  obtain ⟨r, hc, h1⟩ := hty
  obtain ⟨r', hr', cellV, g1, g2, g3, -⟩ := P.1 v _ ev
  have hcls := (hK.1 ci r hc).2
  obtain ⟨kA, comp, k1, k2, k3, -⟩ := (hK.2 t _ h1).2
  have hcomp : comp = D.1 ci := Option.some.inj (k3.symm.trans hcls.1)
  subst hcomp
  obtain ⟨kC, hkC, -⟩ := hcls.2
  refine W.aast (v := base + v) C.1 C.2.1 (P.1 a _ e) (fun q h => by cases h) (fun h => by cases h) k1 k2 rfl hkC ⟨h0, by show _ < (arrV _ _ _).slots.size; rw [arrV_size]; exact hlt⟩ g1 (fun q h => by rw [g3] at h; cases h) (by rw [g2]; exact hkC) (by rw [g2]; exact va_asg _ _) rfl rfl hd fun H1 e1 z oq => ?_
  refine kk H1 _ (mj_wrP P ht rfl mj_oR ?_ z oq) (V.put z oq (by show base ≤ base + a; omega))
  have e2 : mj_e base cA (t, n) (mI (wR h a i.toNatClampNeg (some v)) a) (mL (wR h a i.toNatClampNeg (some v)) a) (mR (wR h a i.toNatClampNeg (some v)) a) = .inl (cA t, n, .inr (.inr (.inr (.inr (mj_q base (va_up (mR h a) i.toNatClampNeg (some v))))))) := by
    rw [mj_sR]
    rcases (show t = 4 ∨ t = 5 ∨ t = 6 by omega) with rfl | rfl | rfl <;> rfl
  rw [e2]
  show H1[base + a]? = some (vp_cell _ _)
  rw [e1]
  show some ((vp_cell (cA t) (n, .inr (.inr (.inr (.inr (mj_q base (mR h a))))))).setSlot _ _) = some _
  rw [vp_cell_q, vp_cell_q, arrV_store]
  congr 2
  funext q
  by_cases hq : q = i.toNatClampNeg <;> simp [updV, va_up, va_rf, mj_q, hq]
/-- an int array into an array of such -/
theorem Ex_aastoreA {v w : Nat} (hd : decode μ.2.1 pc = .ok (.aastore, 1)) (ht : mT h a = some (3, n)) (hv : mT h v = some (0, w)) (hi : vp_in i n) (k : Ex S μ (pc + 1) ls st (wR h a i.toNatClampNeg (some v)) Q) : Ex S μ pc ls (.ref v :: .int i :: .ref a :: st) h Q := by
  refine mj_wr (h1 := wR h a i.toNatClampNeg (some v)) rfl (fun {p l e R s m args below meth c b base D cA H locs cells slots Q rls} C P V L kk => ?_) k
  have hK : va_K D mj_classes (mj_tys cA) s := C.2.2.2.2.2.2.2.2.2.1
  have hlt := mj_lt hi
  have h0 : ¬ i < 0 := fun q => hi (Or.inl q)
  obtain ⟨comp, cc, kA, f1, f2, f3, f4, f5⟩ := arrayOverA_spec C.2.2.2.2.2.2.2.2.1.2.2.2.2.2.2.1
  have hc3 : cc = cA 3 := Option.some.inj (f5.symm.trans (hK.2 3 _ rfl).2)
  have hc0 : comp = cA 0 := Option.some.inj (f1.symm.trans (va_nm_int (hK.2 0 _ rfl).2))
  subst hc3
  subst hc0
  obtain ⟨-, kI, hkI, cmI, hkkI⟩ := (hK.2 0 _ rfl).1 0 (fun _ => .null)
  have hkI : s.vm.classes[cA 0]? = some kI := hkI
  refine W.aast (v := base + v) (kcomp := kI) (kv := kI) C.1 C.2.1 (P.1 a _ (mj_w_get ht)) (fun q h => by cases h) (fun h => by cases h) f3 f4 rfl hkI ⟨h0, by show _ < (arrV _ _ _).slots.size; rw [arrV_size]; exact hlt⟩ (P.1 v _ (mj_w_get hv)) (fun q h => by cases h) hkI (va_asg _ _) rfl rfl hd fun H1 e1 z oq => ?_
  refine kk H1 _ (mj_wrP P ht rfl mj_oR ?_ z oq) (V.put z oq (by show base ≤ base + a; omega))
  rw [mj_sR]
  show H1[base + a]? = some (vp_cell _ _)
  rw [e1]
  show some ((vp_cell (cA 3) (n, .inr (.inr (.inr (.inr (mj_q base (mR h a))))))).setSlot _ _) = some (vp_cell (cA 3) (n, .inr (.inr (.inr (.inr (mj_q base (va_up (mR h a) i.toNatClampNeg (some v))))))))
  rw [vp_cell_q, vp_cell_q, arrV_store]
  congr 2
  funext q
  by_cases hq : q = i.toNatClampNeg <;> simp [updV, va_up, va_rf, mj_q, hq]
end MJA
