/-! The small machine: typed cells numbered from 0 on. 'Ex' says: from here the machine comes to the method's end with Q of its answer and its heap. -/
abbrev mj_H : Type := List (Nat × Nat) × (Nat → Nat → Int32) × (Nat → Nat → Int64) × (Nat → Nat → Option Nat)
def mT (h : mj_H) (a : Nat) : Option (Nat × Nat) := h.1[a]?
def mI (h : mj_H) : Nat → Nat → Int32 := h.2.1
def mL (h : mj_H) : Nat → Nat → Int64 := h.2.2.1
def mR (h : mj_H) : Nat → Nat → Option Nat := h.2.2.2
def mN (h : mj_H) : Nat := h.1.length
def mZ (h : mj_H) : Nat := (h.1.map (fun q => q.2)).sum
def wA (h : mj_H) (a : Nat) (f : Nat → Int32) : mj_H := (h.1, va_up h.2.1 a f, h.2.2)
def wI (h : mj_H) (a k : Nat) (v : Int32) : mj_H := wA h a (va_up (mI h a) k v)
def wL (h : mj_H) (a k : Nat) (v : Int64) : mj_H := (h.1, h.2.1, va_up h.2.2.1 a (va_up (h.2.2.1 a) k v), h.2.2.2)
def wR (h : mj_H) (a k : Nat) (v : Option Nat) : mj_H := (h.1, h.2.1, h.2.2.1, va_up h.2.2.2 a (va_up (h.2.2.2 a) k v))
def mNew (h : mj_H) (t n : Nat) : mj_H := (h.1 ++ [(t, n)], va_up h.2.1 h.1.length (fun _ => 0), va_up h.2.2.1 h.1.length (fun _ => 0), va_up h.2.2.2 h.1.length (fun _ => none))
/-- a method: its name, bytes, locals, answer, frames and words of room below it -/
abbrev mj_Y : Type := MethodName × ByteArray × Nat × Option FieldType × Nat × Nat
abbrev mj_S : Type := Nat × (Nat → Int32)
abbrev mj_L : Type := List (Option Value)
abbrev mj_classes : List vw_C := [(RX0, TX0, 3), (RX1, TX1, 11), (RX3, TX3, 4), (RX4, TX4, 5), (RX5, TX5, 5), (RX6, TX6, 6), (RX7, TX7, 3), (RX8, TX8, 3), (RX9, TX9, 5), (RX10, TX10, 13), (RX11, TX11, 15), (RX12, TX12, 55)]
def mj_ft (c : Nat) : Nat → FieldType := match c with
  | 0 => tyX0
  | 1 => tyX1
  | 2 => tyX3
  | 3 => tyX4
  | 4 => tyX5
  | 5 => tyX6
  | 6 => tyX7
  | 7 => tyX8
  | 8 => tyX9
  | 9 => tyX10
  | 10 => tyX11
  | _ => tyX12
def mj_isR (t : FieldType) : Bool := match t with
  | .object _ => true
  | .array _ => true
  | _ => false
abbrev mj_tys (cA : Nat → ClassId) : List (ClassId × FieldType) := [(cA 0, .int), (cA 1, .long), (cA 2, .boolean), (cA 3, .array .int), (cA 4, .object RX7), (cA 5, .object RX9), (cA 6, .object RX4)]
def mj_v (b base : Nat) (v : Value) : Value := match v with
  | .ref a => .ref (base + a)
  | .float _ => .ref b
  | v => v
def mj_q (base : Nat) (R : Nat → Option Nat) : Nat → Option Nat := fun j => (R j).map (fun a => base + a)
def mj_fs (base c n : Nat) (I : Nat → Int32) (R : Nat → Option Nat) : List Value := (List.range n).map (fun k => if mj_isR (mj_ft c k) = true then va_rf (mj_q base R k) else .int (I k))
def mj_e (base : Nat) (cA : Nat → ClassId) (t : Nat × Nat) (I : Nat → Int32) (L : Nat → Int64) (R : Nat → Option Nat) : va_E :=
  if t.1 = 0 then .inl (cA 0, t.2, .inl I)
  else if t.1 = 1 then .inl (cA 1, t.2, .inr (.inl L))
  else if t.1 = 2 then .inl (cA 2, t.2, .inl I)
  else if t.1 < 10 then .inl (cA t.1, t.2, .inr (.inr (.inr (.inr (mj_q base R)))))
  else .inr (t.1 - 10, mj_fs base (t.1 - 10) t.2 I R)
def mj_w (base : Nat) (cA : Nat → ClassId) (h : mj_H) : va_W := h.1.mapIdx (fun k t => (base + k, mj_e base cA t (mI h k) (mL h k) (mR h k)))
def mj_P (base : Nat) (D : va_G) (cA : Nat → ClassId) (h : mj_H) (H : Heap) : Prop := va_P D mj_classes (mj_w base cA h) H ∧ H.size = base + mN h
def mj_l (b base : Nat) (ls : mj_L) (rls : Array Slot) : Prop := rls.size = ls.length ∧ lv_wf rls ∧ ∀ (k : Nat) (v : Value), ls[k]? = some (some v) → rls[k]? = some (.val (mj_v b base v))
def lw_g : List Cond := lw_tbl.filter goodWord
def mj_AOA (U : State) : Prop := (Cond.arrayOver (.array .int)).before #[] U = true
def mj_N (U : State) : Prop := va_Nw (.methodLinkNest "TileOffice" 9 yX6_init "TileOffice") U ∧ va_Nw (.methodLinkNest "TileOffice" 41 yX8_init "TileOffice") U ∧ va_Nw (.methodLinkNest "TileOffice" 54 yX5_init "TileOffice") U ∧
  va_AO RX7 U ∧ va_AO RX9 U ∧ va_AO RX4 U ∧ mj_AOA U ∧ va_Nw (.castable "[I" "java/lang/Cloneable") U
/-- what holds of the machine all along a method's run -/
def mj_C (S : mj_S) (μ : mj_Y) (p : Program) (R : Room) (s : State) (m : MethodId) (args : Array Value) (meth : Method) (c : Code) (b base : Nat) (D : va_G) (cA : Nat → ClassId) : Prop :=
  p.tables.exec = Jvm.exec ∧ c.code = μ.2.1 ∧ c.maxLocals = μ.2.2.1 ∧ s.vm.findClass μ.1.cls = some m.cls ∧ meth.sig.returnType = μ.2.2.2.1 ∧ meth.locks = false ∧ (μ.1.name = "<init>" → meth.name = "<init>") ∧
  (∀ w ∈ lw_g, w.before args s = true) ∧ mj_N s ∧ va_K D mj_classes (mj_tys cA) s ∧ μ.2.2.2.2.1 ≤ R.frames ∧ μ.2.2.2.2.2 ≤ R.locals ∧ base ≤ s.heap.size ∧ (μ.1 = yL_law → va_X b S.1 S.2 s s.heap ∧ b < base)
/-- the return instruction at pc fits the answer -/
def mj_ret (μ : mj_Y) (pc : Nat) (r : Option Value) : Prop := match r with
  | none => μ.2.2.2.1 = none ∧ decode μ.2.1 pc = .ok (.return_, 1)
  | some (.int v) => ∃ ty, μ.2.2.2.1 = some ty ∧ narrow ty (.int v) = .int v ∧ decode μ.2.1 pc = .ok (.ireturn, 1)
  | some (.long _) => μ.2.2.2.1 = some .long ∧ decode μ.2.1 pc = .ok (.lreturn, 1)
  | some (.ref _) => ∃ ty, μ.2.2.2.1 = some ty ∧ ((∃ n, ty = .object n) ∨ ∃ t, ty = .array t) ∧ decode μ.2.1 pc = .ok (.areturn, 1)
  | some .null => ∃ ty, μ.2.2.2.1 = some ty ∧ ((∃ n, ty = .object n) ∨ ∃ t, ty = .array t) ∧ decode μ.2.1 pc = .ok (.areturn, 1)
  | _ => False
/-- what is known of the end: at a return with that answer and heap the goal is met -/
def mj_E (μ : mj_Y) (r : Option Value) (h' : mj_H) (p : Program) (l : Launch) (e : Env) (R : Room) (s : State) (m : MethodId) (args : Array Value) (below : List Frame) (meth : Method) (c : Code) (b base : Nat) (D : va_G) (cA : Nat → ClassId) (n0 z0 : Nat) (Q : State → Prop) : Prop :=
  ∀ (H : Heap) (locs : List Loc) (rls : Array Slot) (pc : Nat), mj_P base D cA h' H → va_S (fun q => base ≤ q) s.heap H locs → mj_ret μ pc r → W p l e R s m args below meth c H locs (mN h' - n0) (mZ h' - z0) Q (F0 m pc rls (r.toList.map (mj_v b base)))
def mj_Go (S : mj_S) (μ : mj_Y) (pc : Nat) (ls : mj_L) (st : List Value) (h : mj_H) (r : Option Value) (h' : mj_H) : Prop :=
  mN h ≤ mN h' ∧ mZ h ≤ mZ h' ∧ ∀ (p : Program) (l : Launch) (e : Env) (R : Room) (s : State) (m : MethodId) (args : Array Value) (below : List Frame) (meth : Method) (c : Code) (b base : Nat) (D : va_G) (cA : Nat → ClassId), mj_C S μ p R s m args meth c b base D cA →
    ∀ (n0 z0 : Nat) (Q : State → Prop), n0 ≤ mN h → z0 ≤ mZ h → mN h' - n0 ≤ R.cells → mZ h' - z0 ≤ R.slots → mj_E μ r h' p l e R s m args below meth c b base D cA n0 z0 Q →
    ∀ (H : Heap) (locs : List Loc) (rls : Array Slot), mj_P base D cA h H → va_S (fun q => base ≤ q) s.heap H locs → mj_l b base ls rls → W p l e R s m args below meth c H locs (mN h - n0) (mZ h - z0) Q (F0 m pc rls (st.map (mj_v b base)))
def Ex (S : mj_S) (μ : mj_Y) (pc : Nat) (ls : mj_L) (st : List Value) (h : mj_H) (Q : Option Value → mj_H → Prop) : Prop := ∃ (r : Option Value) (h' : mj_H), Q r h' ∧ mj_Go S μ pc ls st h r h'
theorem mj_w_get {base : Nat} {cA : Nat → ClassId} {h : mj_H} {a : Nat} {t : Nat × Nat} (ht : mT h a = some t) : (mj_w base cA h)[a]? = some (base + a, mj_e base cA t (mI h a) (mL h a) (mR h a)) := by
  unfold mj_w
  rw [List.getElem?_mapIdx]
  unfold mT at ht
  rw [ht]; rfl
theorem mj_w_D {base : Nat} {cA : Nat → ClassId} {h : mj_H} : va_D (fun q => base ≤ q) (mj_w base cA h) := by
  have key : ∀ (k : Nat) (q : Nat × va_E), (mj_w base cA h)[k]? = some q → q.1 = base + k := by
    intro k q hq
    unfold mj_w at hq
    rw [List.getElem?_mapIdx] at hq
    cases hz : h.1[k]? with
    | none => rw [hz] at hq; cases hq
    | some t => rw [hz] at hq; cases hq; rfl
  refine ⟨fun i j p q h1 h2 h3 => ?_, fun k q hq => ?_⟩
  · have e1 := key i p h1
    have e2 := key j q h2
    omega
  · have e1 := key k q hq
    show base ≤ q.1
    omega
theorem mj_w_set {base : Nat} {cA : Nat → ClassId} {h h1 : mj_H} {a : Nat} {t : Nat × Nat} {e : va_E} (ht : mT h a = some t) (hT : h1.1 = h.1) (he : mj_e base cA t (mI h1 a) (mL h1 a) (mR h1 a) = e) (ho : ∀ k, k ≠ a → mI h1 k = mI h k ∧ mL h1 k = mL h k ∧ mR h1 k = mR h k) : (mj_w base cA h).set a (base + a, e) = mj_w base cA h1 := by
  apply List.ext_getElem?
  intro i
  by_cases hi : i = a
  · subst hi
    have hlt : i < (mj_w base cA h).length := (List.getElem?_eq_some_iff.mp (mj_w_get (base := base) (cA := cA) ht)).1
    rw [List.getElem?_set_self hlt, mj_w_get (h := h1) (t := t) (by unfold mT; rw [hT]; exact ht), he]
  · rw [List.getElem?_set_ne (Ne.symm hi)]
    unfold mj_w
    rw [List.getElem?_mapIdx, List.getElem?_mapIdx, hT]
    obtain ⟨a1, a2, a3⟩ := ho i hi
    rw [a1, a2, a3]
theorem mj_w_new {base : Nat} {cA : Nat → ClassId} {h : mj_H} {t n : Nat} : mj_w base cA (mNew h t n) = mj_w base cA h ++ [(base + mN h, mj_e base cA (t, n) (fun _ => 0) (fun _ => 0) (fun _ => none))] := by
  apply List.ext_getElem?
  intro i
  have hlen : (mj_w base cA h).length = h.1.length := by unfold mj_w; rw [List.length_mapIdx]
  rcases Nat.lt_trichotomy i h.1.length with hi | hi | hi
  · rw [List.getElem?_append_left (by omega)]
    unfold mj_w
    rw [List.getElem?_mapIdx, List.getElem?_mapIdx]
    have hne : i ≠ h.1.length := by omega
    simp [mNew, mI, mL, mR, va_up, List.getElem?_append_left hi, hne]
  · subst hi
    rw [List.getElem?_append_right (by omega), hlen]
    unfold mj_w
    rw [List.getElem?_mapIdx]
    simp [mNew, mI, mL, mR, mN, va_up]
  · rw [List.getElem?_append_right (by omega), hlen]
    unfold mj_w
    rw [List.getElem?_mapIdx]
    rw [List.getElem?_eq_none (by simp [mNew]; omega), List.getElem?_eq_none (by simp; omega)]
    rfl
theorem mN_new (h : mj_H) (t n : Nat) : mN (mNew h t n) = mN h + 1 := by simp [mN, mNew]
theorem mZ_new (h : mj_H) (t n : Nat) : mZ (mNew h t n) = mZ h + n := by simp [mZ, mNew]
theorem mT_new_old {h : mj_H} {t n a : Nat} {x : Nat × Nat} (ha : mT h a = some x) : mT (mNew h t n) a = some x := by
  have hl := (List.getElem?_eq_some_iff.mp ha).1
  unfold mT at ha ⊢
  simp only [mNew]
  rw [List.getElem?_append_left hl]; exact ha
theorem mT_new_self (h : mj_H) (t n : Nat) : mT (mNew h t n) (mN h) = some (t, n) := by simp [mT, mNew, mN]
/-- a step that leaves the heap as it is -/
theorem mj_pure {S : mj_S} {μ : mj_Y} {pc pc' : Nat} {ls ls' : mj_L} {st st' : List Value} {h : mj_H} {Q0 : Option Value → mj_H → Prop}
    (hs : ∀ {p : Program} {l : Launch} {e : Env} {R : Room} {s : State} {m : MethodId} {args : Array Value} {below : List Frame} {meth : Method} {c : Code} {b base : Nat} {D : va_G} {cA : Nat → ClassId} {H : Heap} {locs : List Loc} {cells slots : Nat} {Q : State → Prop} {rls : Array Slot},
      mj_C S μ p R s m args meth c b base D cA → mj_P base D cA h H → va_S (fun q => base ≤ q) s.heap H locs → mj_l b base ls rls → (∀ rls' : Array Slot, mj_l b base ls' rls' → W p l e R s m args below meth c H locs cells slots Q (F0 m pc' rls' (st'.map (mj_v b base)))) → W p l e R s m args below meth c H locs cells slots Q (F0 m pc rls (st.map (mj_v b base))))
    (k : Ex S μ pc' ls' st' h Q0) : Ex S μ pc ls st h Q0 := by
  obtain ⟨r, h', q, g1, g2, g⟩ := k
  refine ⟨r, h', q, g1, g2, ?_⟩
  intro p l e R s m args below meth c b base D cA C n0 z0 Q hn hz hc hl E H locs rls P Sv Lr
  exact hs C P Sv Lr (fun rls' L' => g p l e R s m args below meth c b base D cA C n0 z0 Q hn hz hc hl E H locs rls' P Sv L')
/-- a step that writes, and makes nothing -/
theorem mj_wr {S : mj_S} {μ : mj_Y} {pc pc' : Nat} {ls : mj_L} {st st' : List Value} {h h1 : mj_H} {Q0 : Option Value → mj_H → Prop} (hT : h1.1 = h.1)
    (hs : ∀ {p : Program} {l : Launch} {e : Env} {R : Room} {s : State} {m : MethodId} {args : Array Value} {below : List Frame} {meth : Method} {c : Code} {b base : Nat} {D : va_G} {cA : Nat → ClassId} {H : Heap} {locs : List Loc} {cells slots : Nat} {Q : State → Prop} {rls : Array Slot},
      mj_C S μ p R s m args meth c b base D cA → mj_P base D cA h H → va_S (fun q => base ≤ q) s.heap H locs → mj_l b base ls rls → (∀ (H1 : Heap) (locs1 : List Loc), mj_P base D cA h1 H1 → va_S (fun q => base ≤ q) s.heap H1 locs1 → W p l e R s m args below meth c H1 locs1 cells slots Q (F0 m pc' rls (st'.map (mj_v b base)))) → W p l e R s m args below meth c H locs cells slots Q (F0 m pc rls (st.map (mj_v b base))))
    (k : Ex S μ pc' ls st' h1 Q0) : Ex S μ pc ls st h Q0 := by
  obtain ⟨r, h', q, g1, g2, g⟩ := k
  have eN : mN h1 = mN h := by unfold mN; rw [hT]
  have eZ : mZ h1 = mZ h := by unfold mZ; rw [hT]
  refine ⟨r, h', q, eN ▸ g1, eZ ▸ g2, ?_⟩
  intro p l e R s m args below meth c b base D cA C n0 z0 Q hn hz hc hl E H locs rls P Sv Lr
  refine hs C P Sv Lr (fun H1 locs1 P1 S1 => ?_)
  have z := g p l e R s m args below meth c b base D cA C n0 z0 Q (by rw [eN]; exact hn) (by rw [eZ]; exact hz) hc hl E H1 locs1 rls P1 S1 Lr
  rw [eN, eZ] at z
  exact z
/-- a step that makes a cell -/
theorem mj_mk {S : mj_S} {μ : mj_Y} {pc pc' : Nat} {ls : mj_L} {st st' : List Value} {h h1 : mj_H} {Q0 : Option Value → mj_H → Prop} {n : Nat} (hN : mN h1 = mN h + 1) (hZ : mZ h1 = mZ h + n)
    (hs : ∀ {p : Program} {l : Launch} {e : Env} {R : Room} {s : State} {m : MethodId} {args : Array Value} {below : List Frame} {meth : Method} {c : Code} {b base : Nat} {D : va_G} {cA : Nat → ClassId} {H : Heap} {locs : List Loc} {cells slots : Nat} {Q : State → Prop} {rls : Array Slot},
      mj_C S μ p R s m args meth c b base D cA → mj_P base D cA h H → va_S (fun q => base ≤ q) s.heap H locs → mj_l b base ls rls → cells + 1 ≤ R.cells → slots + n ≤ R.slots → (∀ (H1 : Heap), mj_P base D cA h1 H1 → va_S (fun q => base ≤ q) s.heap H1 locs → W p l e R s m args below meth c H1 locs (cells + 1) (slots + n) Q (F0 m pc' rls (st'.map (mj_v b base)))) → W p l e R s m args below meth c H locs cells slots Q (F0 m pc rls (st.map (mj_v b base))))
    (k : Ex S μ pc' ls st' h1 Q0) : Ex S μ pc ls st h Q0 := by
  obtain ⟨r, h', q, g1, g2, g⟩ := k
  refine ⟨r, h', q, by omega, by omega, ?_⟩
  intro p l e R s m args below meth c b base D cA C n0 z0 Q hn hz hc hl E H locs rls P Sv Lr
  refine hs C P Sv Lr (by omega) (by omega) (fun H1 P1 S1 => ?_)
  have z := g p l e R s m args below meth c b base D cA C n0 z0 Q (by omega) (by omega) hc hl E H1 locs rls P1 S1 Lr
  rw [hN, hZ, show mN h + 1 - n0 = mN h - n0 + 1 by omega, show mZ h + n - z0 = mZ h - z0 + n by omega] at z
  exact z
