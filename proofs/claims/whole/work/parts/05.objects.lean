/-! Rows of the small machine: fields, new cells, copies. -/
theorem lw_g_of {w : Cond} (h1 : w ∈ lw_tbl) (h2 : goodWord w = true) : w ∈ lw_g := List.mem_filter.mpr ⟨h1, h2⟩
theorem lw_g_at {w : Cond} (i : Nat) (h1 : lw_tbl[i]? = some w) (h2 : goodWord w = true) : w ∈ lw_g := lw_g_of (List.mem_of_getElem? h1) h2
theorem u_ws_good (C : String) (T : u_T) (N : Nat) : ∀ w ∈ u_ws C T N, goodWord w = true := by
  intro w hw
  obtain ⟨k, -, rfl⟩ := List.mem_map.mp hw
  unfold u_lay
  split <;> rfl
theorem iX0 : ∀ w ∈ u_ws RX0 TX0 3, w ∈ lw_tbl := by decide +kernel
theorem iX1 : ∀ w ∈ u_ws RX1 TX1 11, w ∈ lw_tbl := by decide +kernel
theorem iX3 : ∀ w ∈ u_ws RX3 TX3 4, w ∈ lw_tbl := by decide +kernel
theorem iX4 : ∀ w ∈ u_ws RX4 TX4 5, w ∈ lw_tbl := by decide +kernel
theorem iX5 : ∀ w ∈ u_ws RX5 TX5 5, w ∈ lw_tbl := by decide +kernel
theorem iX6 : ∀ w ∈ u_ws RX6 TX6 6, w ∈ lw_tbl := by decide +kernel
theorem iX7 : ∀ w ∈ u_ws RX7 TX7 3, w ∈ lw_tbl := by decide +kernel
theorem iX8 : ∀ w ∈ u_ws RX8 TX8 3, w ∈ lw_tbl := by decide +kernel
theorem iX9 : ∀ w ∈ u_ws RX9 TX9 5, w ∈ lw_tbl := by decide +kernel
theorem iX10 : ∀ w ∈ u_ws RX10 TX10 13, w ∈ lw_tbl := by decide +kernel
theorem iX11 : ∀ w ∈ u_ws RX11 TX11 15, w ∈ lw_tbl := by decide +kernel
theorem iX12 : ∀ w ∈ u_ws RX12 TX12 55, w ∈ lw_tbl := by decide +kernel
/-- what the tables say of a class by its place -/
def mj_clOK (ci : Nat) (C : String) (T : u_T) (N : Nat) : Prop := (∀ w ∈ u_ws C T N, w ∈ lw_g) ∧ (∀ k, k < N → parseFieldDescriptor (T k).2.2.1 = some (mj_ft ci k)) ∧ (∀ a, a < N → ∀ b, b < N → a ≠ b → (T a).2.1 ≠ (T b).2.1) ∧ (∀ j, j < N → defaultValue (mj_ft ci j) = if mj_isR (mj_ft ci j) = true then .null else .int 0) ∧ Cond.instantiable C N ∈ lw_g ∧ Cond.initialized C ∈ lw_g
theorem mj_cl (ci : Nat) (C : String) (T : u_T) (N : Nat) (h : mj_classes[ci]? = some (C, T, N)) : mj_clOK ci C T N := by
  match ci, h with
  | 0, h => cases h; exact ⟨fun w hw => lw_g_of (iX0 w hw) (u_ws_good _ _ _ w hw), tyX0_ok, nmX0, by decide, lw_g_of (by decide +kernel) rfl, lw_g_of (by decide +kernel) rfl⟩
  | 1, h => cases h; exact ⟨fun w hw => lw_g_of (iX1 w hw) (u_ws_good _ _ _ w hw), tyX1_ok, nmX1, by decide, lw_g_of (by decide +kernel) rfl, lw_g_of (by decide +kernel) rfl⟩
  | 2, h => cases h; exact ⟨fun w hw => lw_g_of (iX3 w hw) (u_ws_good _ _ _ w hw), tyX3_ok, nmX3, by decide, lw_g_of (by decide +kernel) rfl, lw_g_of (by decide +kernel) rfl⟩
  | 3, h => cases h; exact ⟨fun w hw => lw_g_of (iX4 w hw) (u_ws_good _ _ _ w hw), tyX4_ok, nmX4, by decide, lw_g_of (by decide +kernel) rfl, lw_g_of (by decide +kernel) rfl⟩
  | 4, h => cases h; exact ⟨fun w hw => lw_g_of (iX5 w hw) (u_ws_good _ _ _ w hw), tyX5_ok, nmX5, by decide, lw_g_of (by decide +kernel) rfl, lw_g_of (by decide +kernel) rfl⟩
  | 5, h => cases h; exact ⟨fun w hw => lw_g_of (iX6 w hw) (u_ws_good _ _ _ w hw), tyX6_ok, nmX6, by decide, lw_g_of (by decide +kernel) rfl, lw_g_of (by decide +kernel) rfl⟩
  | 6, h => cases h; exact ⟨fun w hw => lw_g_of (iX7 w hw) (u_ws_good _ _ _ w hw), tyX7_ok, nmX7, by decide, lw_g_of (by decide +kernel) rfl, lw_g_of (by decide +kernel) rfl⟩
  | 7, h => cases h; exact ⟨fun w hw => lw_g_of (iX8 w hw) (u_ws_good _ _ _ w hw), tyX8_ok, nmX8, by decide, lw_g_of (by decide +kernel) rfl, lw_g_of (by decide +kernel) rfl⟩
  | 8, h => cases h; exact ⟨fun w hw => lw_g_of (iX9 w hw) (u_ws_good _ _ _ w hw), tyX9_ok, nmX9, by decide, lw_g_of (by decide +kernel) rfl, lw_g_of (by decide +kernel) rfl⟩
  | 9, h => cases h; exact ⟨fun w hw => lw_g_of (iX10 w hw) (u_ws_good _ _ _ w hw), tyX10_ok, nmX10, by decide, lw_g_of (by decide +kernel) rfl, lw_g_of (by decide +kernel) rfl⟩
  | 10, h => cases h; exact ⟨fun w hw => lw_g_of (iX11 w hw) (u_ws_good _ _ _ w hw), tyX11_ok, nmX11, by decide, lw_g_of (by decide +kernel) rfl, lw_g_of (by decide +kernel) rfl⟩
  | 11, h => cases h; exact ⟨fun w hw => lw_g_of (iX12 w hw) (u_ws_good _ _ _ w hw), tyX12_ok, nmX12, by decide, lw_g_of (by decide +kernel) rfl, lw_g_of (by decide +kernel) rfl⟩
  | n + 12, h => cases h
/-- a pool entry of a class that names field k of class ci -/
def mj_F (own : String) (idx ci k n : Nat) (fin : Bool) (ty : FieldType) : Prop := ∃ (C : String) (T : u_T), mj_classes[ci]? = some (C, T, n) ∧ k < n ∧ (T k).2.2.2 = fin ∧ mj_ft ci k = ty ∧ (T k).1 = C ∧ Cond.fieldLink own idx (T k).1 (T k).2.1 (T k).2.2.1 ∈ lw_g
theorem mj_fs_len (base c n : Nat) (I : Nat → Int32) (R : Nat → Option Nat) : (mj_fs base c n I R).length = n := by simp [mj_fs]
theorem mj_fs_get {base c n k : Nat} {I : Nat → Int32} {R : Nat → Option Nat} (hk : k < n) : (mj_fs base c n I R)[k]? = some (if mj_isR (mj_ft c k) = true then va_rf (mj_q base R k) else .int (I k)) := by
  unfold mj_fs
  rw [List.getElem?_map, List.getElem?_range hk]; rfl
theorem mj_e_obj (base : Nat) (cA : Nat → ClassId) (ci n : Nat) (I : Nat → Int32) (L : Nat → Int64) (R : Nat → Option Nat) : mj_e base cA (10 + ci, n) I L R = .inr (ci, mj_fs base ci n I R) := by
  unfold mj_e
  rw [if_neg (by show ¬ 10 + ci = 0; omega), if_neg (by show ¬ 10 + ci = 1; omega), if_neg (by show ¬ 10 + ci = 2; omega), if_neg (by show ¬ 10 + ci < 10; omega)]
  rw [show (10 + ci, n).1 - 10 = ci by show 10 + ci - 10 = ci; omega]
theorem mj_fs_setI {base c n k : Nat} {I : Nat → Int32} {R : Nat → Option Nat} {v : Int32} (hr : mj_isR (mj_ft c k) = false) : (mj_fs base c n I R).set k (.int v) = mj_fs base c n (va_up I k v) R := by
  apply List.ext_getElem?
  intro i
  by_cases hi : i < n
  · by_cases hk : k = i
    · subst hk
      rw [List.getElem?_set_self (by rw [mj_fs_len]; exact hi), mj_fs_get hi, hr]
      simp [va_up]
    · rw [List.getElem?_set_ne hk, mj_fs_get hi, mj_fs_get hi]
      have : ¬ i = k := fun z => hk z.symm
      simp [va_up, this]
  · rw [List.getElem?_eq_none (by rw [List.length_set, mj_fs_len]; omega), List.getElem?_eq_none (by rw [mj_fs_len]; omega)]
theorem mj_fs_setR {b base c n k : Nat} {I : Nat → Int32} {R : Nat → Option Nat} {v : Option Nat} (hr : mj_isR (mj_ft c k) = true) : (mj_fs base c n I R).set k (mj_v b base (va_rf v)) = mj_fs base c n I (va_up R k v) := by
  apply List.ext_getElem?
  intro i
  by_cases hi : i < n
  · by_cases hk : k = i
    · subst hk
      rw [List.getElem?_set_self (by rw [mj_fs_len]; exact hi), mj_fs_get hi, hr, ← mj_rfv b base]
      simp [va_up, mj_q]
    · rw [List.getElem?_set_ne hk, mj_fs_get hi, mj_fs_get hi]
      have : ¬ i = k := fun z => hk z.symm
      simp [va_up, mj_q, this]
  · rw [List.getElem?_eq_none (by rw [List.length_set, mj_fs_len]; omega), List.getElem?_eq_none (by rw [mj_fs_len]; omega)]
section MJF
variable {S : mj_S} {μ : mj_Y} {pc : Nat} {ls : mj_L} {st : List Value} {h : mj_H} {Q : Option Value → mj_H → Prop} {a n ci k idx : Nat} {fin : Bool} {ty : FieldType}
theorem Ex_getI (hd : decode μ.2.1 pc = .ok (.getfield idx, 3)) (hF : mj_F μ.1.cls idx ci k n fin ty) (hty : mj_isR ty = false) (ht : mT h a = some (10 + ci, n)) (kk : Ex S μ (pc + 3) ls (.int (mI h a k) :: st) h Q) : Ex S μ pc ls (.ref a :: st) h Q := by
  obtain ⟨C, T, h1, h2, h3, h4, h5, h6⟩ := hF
  subst h4
  have ok := mj_cl ci C T n h1
  refine mj_pure (fun {p l e R s m args below meth c b base D cA H locs cells slots Q rls} C P V L kk => ?_) kk
  have e1 := mj_w_get (base := base) (cA := cA) ht
  rw [mj_e_obj] at e1
  have hv := mj_fs_get (base := base) (c := ci) (I := mI h a) (R := mR h a) h2
  rw [hty] at hv
  exact va_get C.1 C.2.1 C.2.2.2.2.2.2.2.1 ok.1 C.2.2.2.1 C.2.2.2.2.2.2.2.2.2.1 P.1 a e1 h1 k h2 (C.2.2.2.2.2.2.2.1 _ h6) (fun x hx => hx) hv hd (kk _ L)
theorem Ex_getR {v : Value} (hd : decode μ.2.1 pc = .ok (.getfield idx, 3)) (hF : mj_F μ.1.cls idx ci k n fin ty) (hty : mj_isR ty = true) (ht : mT h a = some (10 + ci, n)) (hr : va_rf (mR h a k) = v) (kk : Ex S μ (pc + 3) ls (v :: st) h Q) : Ex S μ pc ls (.ref a :: st) h Q := by
  subst hr
  obtain ⟨C, T, h1, h2, h3, h4, h5, h6⟩ := hF
  subst h4
  have ok := mj_cl ci C T n h1
  refine mj_pure (fun {p l e R s m args below meth c b base D cA H locs cells slots Q rls} C P V L kk => ?_) kk
  have e1 := mj_w_get (base := base) (cA := cA) ht
  rw [mj_e_obj] at e1
  have hv := mj_fs_get (base := base) (c := ci) (I := mI h a) (R := mR h a) h2
  rw [hty] at hv
  have hv : (mj_fs base ci n (mI h a) (mR h a))[k]? = some (mj_v b base (va_rf (mR h a k))) := by
    rw [hv, ← mj_rfv b base]; rfl
  exact va_get C.1 C.2.1 C.2.2.2.2.2.2.2.1 ok.1 C.2.2.2.1 C.2.2.2.2.2.2.2.2.2.1 P.1 a e1 h1 k h2 (C.2.2.2.2.2.2.2.1 _ h6) (fun x hx => hx) hv hd (kk _ L)
/-- a field written, on the machine itself -/
theorem mj_putW {p : Program} {l : Launch} {e : Env} {R : Room} {s : State} {m : MethodId} {args : Array Value} {below : List Frame} {meth : Method} {c : Code} {b base : Nat} {D : va_G} {cA : Nat → ClassId} {H : Heap} {locs : List Loc} {cells slots : Nat} {Q : State → Prop} {rls : Array Slot} {rest : List Value} {v : Value}
    (C : mj_C S μ p R s m args meth c b base D cA) (P : mj_P base D cA h H) (V : va_S (fun q => base ≤ q) s.heap H locs) (hd : decode μ.2.1 pc = .ok (.putfield idx, 3)) (hF : mj_F μ.1.cls idx ci k n fin ty) (hf : fin = false ∨ (fin = true ∧ μ.1.name = "<init>" ∧ ∃ T, mj_classes[ci]? = some (μ.1.cls, T, n))) (ht : mT h a = some (10 + ci, n)) (hn : narrow ty v = v) (hfit : fits ty v = true)
    (kk : ∀ (H1 : Heap) (locs1 : List Loc), va_at D mj_classes (base + a, .inr (ci, (mj_fs base ci n (mI h a) (mR h a)).set k v)) H1 → H1.size = H.size → (∀ q, q ≠ base + a → H1[q]? = H[q]?) → va_S (fun q => base ≤ q) s.heap H1 locs1 → W p l e R s m args below meth c H1 locs1 cells slots Q (F0 m (pc + 3) rls rest)) : W p l e R s m args below meth c H locs cells slots Q (F0 m pc rls (v :: .ref (base + a) :: rest)) := by
  obtain ⟨Cn, T, h1, h2, h3, h4, h5, h6⟩ := hF
  subst h4
  have ok := mj_cl ci Cn T n h1
  have e1 := mj_w_get (base := base) (cA := cA) ht
  rw [mj_e_obj] at e1
  have hts := C.2.2.2.2.2.2.2.1
  have hown := C.2.2.2.1
  have hK : va_K D mj_classes (mj_tys cA) s := C.2.2.2.2.2.2.2.2.2.1
  have hap := va_apart (own := μ.1.cls) hts ok.1 (mj_ft ci) ok.2.1 ok.2.2.1 hK h1
  obtain ⟨r, g1, cell, q1, q2, q3, q4⟩ := P.1 a _ e1
  have hr : r = (Cn, T, n) := Option.some.inj (g1.symm.trans h1)
  subst hr
  obtain ⟨hS, hfc, kC, hkC, hkind⟩ := hK.1 ci _ h1
  obtain ⟨cf, kf, fi, f, hi, hsl⟩ := hS k h2
  have hlay := hts _ (ok.1 _ (u_in_lay h2))
  unfold u_lay at hlay
  have hst := (u_facts hfc hkC (u_lays hts ok.1 h2) hi).1
  have hlink := hts _ h6
  have hl : k < (mj_fs base ci n (mI h a) (mR h a)).length := by rw [mj_fs_len]; exact h2
  rcases hf with hf | ⟨hf, hin2, T', hcl'⟩
  · rw [if_neg (by rw [h3, hf]; decide)] at hlay
    have h7 := u_store hfc hkC hkind hlay hi (ok.2.1 k h2) hn hfit
    refine W.putK C.1 C.2.1 (f := f) ⟨hown, hlink, ⟨_, _, _, hi⟩, hst⟩ (by rw [q2]; exact h7) q1 q3 (by rw [hsl]; exact k2_hasslot (q4 k h2)) rfl rfl hd fun H' e1 e2 e3 => ?_
    rw [hsl] at e1 ⊢
    exact kk H' _ ⟨_, h1, t_OB.to (V := updV (vp_V _) k v) ⟨_, e1, q2, q3, t_set q4 hap h2 v⟩ (fun j _ => vp_updV_set hl v j)⟩ e2 e3 (V.put e2 e3 (by show base ≤ base + a; omega))
  · rw [if_pos (by rw [h3]; exact hf)] at hlay
    have hCn : Cn = μ.1.cls := by
      have := h1.symm.trans hcl'
      cases this
      rfl
    have hcf : m.cls = cf := by
      obtain ⟨_, _, c', _, _, _, -, -, hf', -, -, -, hown2, -⟩ := Cond.laysFinal_spec hlay
      have e1 : c' = cf := by have := hi.symm.trans hf'; simp at this; exact this.1.symm
      rw [h5, hCn] at hown2
      rw [← e1]; exact Option.some.inj (hown.symm.trans hown2)
    have h7 := u_fits hfc hkC hkind (Or.inr hlay) hi (ok.2.1 k h2) hn hfit
    refine W.putFinK C.1 C.2.1 hown hlink hi hst hcf (C.2.2.2.2.2.2.1 hin2) (by rw [q2]; exact h7) q1 q3 (by rw [hsl]; exact k2_hasslot (q4 k h2)) rfl rfl hd fun H' e1 e2 e3 => ?_
    rw [hsl] at e1 ⊢
    exact kk H' _ ⟨_, h1, t_OB.to (V := updV (vp_V _) k v) ⟨_, e1, q2, q3, t_set q4 hap h2 v⟩ (fun j _ => vp_updV_set hl v j)⟩ e2 e3 (V.put e2 e3 (by show base ≤ base + a; omega))
/-- an int field, or a boolean one with 0 or 1 -/
theorem Ex_putI {x : Int32} (hd : decode μ.2.1 pc = .ok (.putfield idx, 3)) (hF : mj_F μ.1.cls idx ci k n fin ty) (hf : fin = false ∨ (fin = true ∧ μ.1.name = "<init>" ∧ ∃ T, mj_classes[ci]? = some (μ.1.cls, T, n))) (ht : mT h a = some (10 + ci, n)) (hty : ty = .int ∨ (ty = .boolean ∧ (x = 0 ∨ x = 1))) (kk : Ex S μ (pc + 3) ls st (wI h a k x) Q) : Ex S μ pc ls (.int x :: .ref a :: st) h Q := by
  have hr : mj_isR (mj_ft ci k) = false := by
    obtain ⟨C, T, h1, h2, h3, h4, h5, h6⟩ := id hF
    rw [h4]; rcases hty with rfl | ⟨rfl, -⟩ <;> rfl
  refine mj_wr (h1 := wI h a k x) rfl (fun {p l e R s m args below meth c b base D cA H locs cells slots Q rls} C P V L kk => ?_) kk
  refine mj_putW (v := .int x) C P V hd hF hf ht (by rcases hty with rfl | ⟨rfl, rfl | rfl⟩ <;> rfl) (by rcases hty with rfl | ⟨rfl, rfl | rfl⟩ <;> rfl) (fun H1 locs1 e1 z oq V1 => ?_)
  refine kk H1 locs1 (mj_wrP P ht rfl mj_oI ?_ z oq) V1
  rw [mj_e_obj, show mI (wI h a k x) a = va_up (mI h a) k x from mj_sI _ _ _]
  rw [mj_fs_setI hr] at e1
  exact e1
theorem Ex_putR {x : Option Nat} {v : Value} (hd : decode μ.2.1 pc = .ok (.putfield idx, 3)) (hF : mj_F μ.1.cls idx ci k n fin ty) (hf : fin = false ∨ (fin = true ∧ μ.1.name = "<init>" ∧ ∃ T, mj_classes[ci]? = some (μ.1.cls, T, n))) (hty : mj_isR ty = true) (ht : mT h a = some (10 + ci, n)) (hx : va_rf x = v) (kk : Ex S μ (pc + 3) ls st (wR h a k x) Q) : Ex S μ pc ls (v :: .ref a :: st) h Q := by
  subst hx
  have hr : mj_isR (mj_ft ci k) = true := by
    obtain ⟨C, T, h1, h2, h3, h4, h5, h6⟩ := id hF
    rw [h4]; exact hty
  refine mj_wr (h1 := wR h a k x) rfl (fun {p l e R s m args below meth c b base D cA H locs cells slots Q rls} C P V L kk => ?_) kk
  refine mj_putW (v := mj_v b base (va_rf x)) C P V hd hF hf ht (by cases ty <;> first | (cases hty; done) | (cases x <;> rfl)) (by cases ty <;> first | (cases hty; done) | (cases x <;> rfl)) (fun H1 locs1 e1 z oq V1 => ?_)
  refine kk H1 locs1 (mj_wrP P ht rfl mj_oR ?_ z oq) V1
  rw [mj_e_obj, mj_sR]
  rw [mj_fs_setR hr] at e1
  exact e1
theorem Ex_new {C : String} {T : u_T} (hd : decode μ.2.1 pc = .ok (.new idx, 3)) (hc : mj_classes[ci]? = some (C, T, n)) (hl : Cond.classLink μ.1.cls idx C ∈ lw_g) (kk : Ex S μ (pc + 3) ls (.ref (mN h) :: st) (mNew h (10 + ci) n) Q) : Ex S μ pc ls st h Q := by
  have ok := mj_cl ci C T n hc
  refine mj_mk (h1 := mNew h (10 + ci) n) (mN_new ..) (mZ_new ..) (fun {p l e R s m args below meth c b base D cA H locs cells slots Q rls} C P V L hcl hsl kk => ?_) kk
  have hts := C.2.2.2.2.2.2.2.1
  have hK : va_K D mj_classes (mj_tys cA) s := C.2.2.2.2.2.2.2.2.2.1
  have hKn := hK.1 ci _ hc
  refine W.newcK C.1 C.2.1 C.2.2.2.1 (hts _ hl) (hts _ ok.2.2.2.2.1) (hts _ ok.2.2.2.2.2) rfl hd hcl hsl hKn.2.1 P.2 fun H1 kC hkC e1 z1 o1 => ?_
  refine kk H1 (mj_mkP P ?_ (by rw [z1, P.2]) (fun q hq => o1 q (by rw [← P.2]; exact hq))) ⟨Nat.le_trans V.1 (by rw [z1, P.2]; omega), fun x h1 h2 => (o1 x (by rw [← P.2]; exact Nat.lt_of_lt_of_le h1 V.1)).trans (V.2.1 x h1 h2), V.2.2⟩
  rw [mj_e_obj]
  refine ⟨_, hc, (u_born (mj_ft ci) hts ok.1 hKn hkC e1 ok.2.1).to (fun j hj => ?_)⟩
  rw [ok.2.2.2.1 j hj]
  show _ = List.getD _ _ _
  rw [List.getD_eq_getElem?_getD, mj_fs_get hj]
  split <;> simp_all [mj_q, va_rf]
end MJF
