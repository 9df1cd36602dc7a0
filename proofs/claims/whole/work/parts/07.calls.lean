/-! Rows of the small machine: the method's end, and calls. -/
section MJE
variable {S : mj_S} {μ ν : mj_Y} {pc : Nat} {ls : mj_L} {st : List Value} {h : mj_H} {Q : Option Value → mj_H → Prop}
theorem mj_end {r : Option Value} (q : Q r h) (hr : mj_ret μ pc r) : Ex S μ pc ls r.toList h Q :=
  ⟨r, h, q, Nat.le_refl _, Nat.le_refl _, fun p l e R s m args below meth c b base D cA C n0 z0 Q hn hz hc hl E H locs rls P V L => E H locs rls pc P V hr⟩
theorem Ex_ireturn {v : Int32} (hd : decode μ.2.1 pc = .ok (.ireturn, 1)) (hr : μ.2.2.2.1 = some .int) (q : Q (some (.int v)) h) : Ex S μ pc ls [.int v] h Q := mj_end (r := some (.int v)) q ⟨_, hr, rfl, hd⟩
theorem Ex_zreturn {v : Int32} (hd : decode μ.2.1 pc = .ok (.ireturn, 1)) (hr : μ.2.2.2.1 = some .boolean) (hv : v = 0 ∨ v = 1) (q : Q (some (.int v)) h) : Ex S μ pc ls [.int v] h Q := mj_end (r := some (.int v)) q ⟨_, hr, by rcases hv with rfl | rfl <;> rfl, hd⟩
theorem Ex_lreturn {v : Int64} (hd : decode μ.2.1 pc = .ok (.lreturn, 1)) (hr : μ.2.2.2.1 = some .long) (q : Q (some (.long v)) h) : Ex S μ pc ls [.long v] h Q := mj_end (r := some (.long v)) q ⟨hr, hd⟩
theorem Ex_return (hd : decode μ.2.1 pc = .ok (.return_, 1)) (hr : μ.2.2.2.1 = none) (q : Q none h) : Ex S μ pc ls [] h Q := mj_end (r := none) q ⟨hr, hd⟩
theorem Ex_areturn {v : Nat} {ty : FieldType} (hd : decode μ.2.1 pc = .ok (.areturn, 1)) (hr : μ.2.2.2.1 = some ty) (ht : (∃ n, ty = .object n) ∨ ∃ t, ty = .array t) (q : Q (some (.ref v)) h) : Ex S μ pc ls [.ref v] h Q := mj_end (r := some (.ref v)) q ⟨_, hr, ht, hd⟩
theorem Ex_areturn0 {ty : FieldType} (hd : decode μ.2.1 pc = .ok (.areturn, 1)) (hr : μ.2.2.2.1 = some ty) (ht : (∃ n, ty = .object n) ∨ ∃ t, ty = .array t) (q : Q (some .null) h) : Ex S μ pc ls [.null] h Q := mj_end (r := some .null) q ⟨_, hr, ht, hd⟩
end MJE
/-! the entry of a method -/
def mj_sl : List Value → mj_L
  | [] => []
  | v :: r => if v.category = 2 then some v :: none :: mj_sl r else some v :: mj_sl r
def mj_ent (n : Nat) (as : List Value) : mj_L := mj_sl as ++ List.replicate (n - (mj_sl as).length) none
theorem mj_sl_mem (b base : Nat) : ∀ (as : List Value) (o k : Nat) (v : Value), (mj_sl as)[k]? = some (some v) → (o + k, mj_v b base v) ∈ lv_args o (as.map (mj_v b base))
  | [], o, k, v, h => by simp [mj_sl] at h
  | w :: as, o, k, v, h => by
    simp only [mj_sl] at h
    show _ ∈ (o, mj_v b base w) :: lv_args _ _
    rw [mj_v_cat]
    by_cases hc : w.category = 2
    · rw [if_pos hc] at h ⊢
      match k, h with
      | 0, h => simp at h; subst h; exact List.mem_cons_self ..
      | 1, h => simp at h
      | k + 2, h =>
        have := mj_sl_mem b base as (o + 2) k v (by simpa using h)
        rw [show o + (k + 2) = o + 2 + k by omega]
        exact List.mem_cons_of_mem _ this
    · rw [if_neg hc] at h ⊢
      match k, h with
      | 0, h => simp at h; subst h; exact List.mem_cons_self ..
      | k + 1, h =>
        have := mj_sl_mem b base as (o + 1) k v (by simpa using h)
        rw [show o + (k + 1) = o + 1 + k by omega]
        exact List.mem_cons_of_mem _ this
theorem mj_sl_len (b base : Nat) : ∀ (as : List Value), (lg_sl (as.map (mj_v b base))).length = (mj_sl as).length
  | [] => rfl
  | w :: as => by
    have ih := mj_sl_len b base as
    simp only [lg_sl, mj_sl, List.map_cons, List.flatMap_cons, List.length_append] at ih ⊢
    rw [mj_v_cat, ih]
    by_cases hc : w.category = 2
    · simp [hc]; omega
    · simp [hc]; omega
theorem mj_entry {b base n : Nat} {as : List Value} (hn : (mj_sl as).length ≤ n) : mj_l b base (mj_ent n as) ((lg_sl (as.map (mj_v b base)) ++ List.replicate (n - (lg_sl (as.map (mj_v b base))).length) Slot.unset).toArray) := by
  have hl := lv_entry (as.map (mj_v b base)) (n := n) (by rw [mj_sl_len]; exact hn)
  refine ⟨by rw [hl.1]; unfold mj_ent; simp; omega, hl.2.1, fun k v hk => ?_⟩
  have hk2 : (mj_sl as)[k]? = some (some v) := by
    unfold mj_ent at hk
    by_cases hlt : k < (mj_sl as).length
    · rwa [List.getElem?_append_left hlt] at hk
    · rw [List.getElem?_append_right (by omega)] at hk
      have := List.mem_of_getElem? hk
      rw [List.mem_replicate] at this
      cases this.2
  have := mj_sl_mem b base as 0 k v hk2
  rw [Nat.zero_add] at this
  exact hl.2.2 _ this
def mj_ws (ν : mj_Y) : List Cond := Cond.code ν.1 ν.2.1 ν.2.2.1 ν.2.2.2.1 :: lw_g
def mj_B (base : Nat) (D : va_G) (cA : Nat → ClassId) (h : mj_H) (U : State) : Prop := mj_P base D cA h U.heap ∧ va_K D mj_classes (mj_tys cA) U ∧ mj_N U
def mj_Qc (b base : Nat) (D : va_G) (cA : Nat → ClassId) (r : Option Value) (h' : mj_H) : Array Value → State → Outcome → State → Prop := fun _ st oc t => oc = .returned (r.map (mj_v b base)) ∧ mj_P base D cA h' t.heap ∧ va_F (fun q => base ≤ q) st t
theorem mj_met {S : mj_S} {ν : mj_Y} {as : List Value} {h h' : mj_H} {r : Option Value} (g : mj_Go S ν 0 (mj_ent ν.2.2.1 as) [] h r h') (hpl : plainFor ν.1 = true) (hlaw : ν.1 ≠ yL_law) (hlen : (mj_sl as).length ≤ ν.2.2.1) (l : Launch) (b base : Nat) (D : va_G) (cA : Nat → ClassId) :
    Met l ν.1 (mj_ws ν) ({ frames := ν.2.2.2.2.1, cells := mN h' - mN h, slots := mZ h' - mZ h, locals := ν.2.2.2.2.2 }) (va_Pc (as.map (mj_v b base)) (mj_B base D cA h)) (mj_Qc b base D cA r h') (mN h' - mN h) (mZ h' - mZ h) (fun q => base ≤ q) := by
  refine va_MetF (cc := ν.2.1) (maxL := ν.2.2.1) (ret := ν.2.2.2.1) hpl rfl ?_
  intro p e s m args below meth c s₁ B hml hv
  obtain ⟨rfl, P, hK, hN⟩ := hv
  have hts := atoms_spec (ws := mj_ws ν) B.pre
  have C : mj_C S ν p (headSpec (mj_ws ν) ({ frames := ν.2.2.2.2.1, cells := mN h' - mN h, slots := mZ h' - mZ h, locals := ν.2.2.2.2.2 })).room s m (as.map (mj_v b base)).toArray meth c b base D cA :=
    ⟨B.exec, B.bytes, hml, findClass_of_methodNamed B.named, B.returns, B.notSynchronized, fun hin => (name_of_methodNamed B.named B.method).1.trans hin, fun w hw => hts w (List.mem_cons_of_mem _ hw), hN, hK, Nat.le_refl _, Nat.le_refl _, by rw [P.2]; omega, fun z => absurd z hlaw⟩
  have key := g.2.2 p l e _ s m _ below meth c b base D cA C (mN h) (mZ h) (MQ below (mj_Qc b base D cA r h') (as.map (mj_v b base)).toArray s (mN h' - mN h) (mZ h' - mZ h) (fun q => base ≤ q)) (Nat.le_refl _) (Nat.le_refl _) (Nat.le_refl _) (Nat.le_refl _) ?_ s.heap [] _ P va_S.rf (mj_entry hlen)
  · rw [Nat.sub_self, Nat.sub_self] at key
    rw [lg_entry_eq]
    exact key
  · intro H locs rls pc P' V' hr
    have hq : ∀ t : State, t.heap = H → s.WarmedH t.vm → mj_Qc b base D cA r h' (as.map (mj_v b base)).toArray s (.returned (r.map (mj_v b base))) t := fun t ht _ => ⟨rfl, by rw [ht]; exact P', V'.F ht⟩
    have hf : ∀ q ∈ locs, (fun q => base ≤ q) q.base := V'.2.2
    match r, hr, hq with
    | none, hr, hq => exact W.vret C.1 C.2.1 (C.2.2.2.2.1.trans hr.1) hq hf hr.2 C.2.2.2.2.2.1
    | some (.int v), ⟨ty, h1, h2, h3⟩, hq => exact W.zret C.1 C.2.1 (C.2.2.2.2.1.trans h1) h2 hq hf h3 C.2.2.2.2.2.1
    | some (.long v), hr, hq => exact W.lret C.1 C.2.1 (C.2.2.2.2.1.trans hr.1) hq hf hr.2 C.2.2.2.2.2.1
    | some (.ref v), ⟨ty, h1, h2, h3⟩, hq => exact W.aret C.1 C.2.1 (C.2.2.2.2.1.trans h1) h2 (Or.inr ⟨_, rfl⟩) hq hf h3 C.2.2.2.2.2.1
    | some .null, ⟨ty, h1, h2, h3⟩, hq => exact W.aret C.1 C.2.1 (C.2.2.2.2.1.trans h1) h2 (Or.inl rfl) hq hf h3 C.2.2.2.2.2.1
theorem mj_AOA_moved {u U : State} (hvm : u.vm.Alike U.vm) (h : mj_AOA u) : mj_AOA U := by
  obtain ⟨comp, c, k, h1, h2, h3, h4, h5⟩ := arrayOverA_spec h
  obtain ⟨k', hk', he⟩ := hvm.2.2 _ _ h3
  have hi : (U.vm.classes.findIdx? fun (x : Class) => match x.kind with | .array component _ => component == comp | _ => false) = some c := by
    rw [hvm.findIdx?_eq _ (fun _ => rfl)]
    exact h2
  have hkind : k'.kind = .array comp (.array .int) := by rw [he]; exact h4
  have f1 : U.vm.findClass (FieldType.array .int).toString = some comp := by rw [hvm.findClass]; exact h1
  have f2 : U.vm.findClass ("[" ++ (FieldType.array .int).toString) = some c := by rw [hvm.findClass]; exact h5
  unfold mj_AOA Cond.before Cond.holds
  simp only [Cond.value]
  rw [f1, Option.bind_some]
  refine (congrArg (fun o : Option Nat => (o.bind (fun c => (U.vm.classes[c]?).map fun (k : Class) => match k.kind with | .array _ ty => decide (ty = FieldType.array .int) && decide (U.vm.findClass ("[" ++ (FieldType.array .int).toString) = some c) | _ => false) == some true)) hi).trans ?_
  simp [hk', hkind, f2]
theorem mj_N_warm {s U : State} (hW : s.WarmedH U.vm) (h : mj_N s) : mj_N U :=
  ⟨va_Nw.warmM hW h.1, va_Nw.warmM hW h.2.1, va_Nw.warmM hW h.2.2.1, va_AO.moved hW.alike h.2.2.2.1, va_AO.moved hW.alike h.2.2.2.2.1, va_AO.moved hW.alike h.2.2.2.2.2.1, mj_AOA_moved hW.alike h.2.2.2.2.2.2.1, va_Nw.warmC hW h.2.2.2.2.2.2.2⟩
theorem mj_N_vm {s U : State} (hv : s.vm = U.vm) (h : mj_N s) : mj_N U := by
  have ha : s.vm.Alike U.vm := by rw [hv]; exact Vm.Alike.refl _
  exact ⟨va_Nw.same rfl hv h.1, va_Nw.same rfl hv h.2.1, va_Nw.same rfl hv h.2.2.1, va_AO.moved ha h.2.2.2.1, va_AO.moved ha h.2.2.2.2.1, va_AO.moved ha h.2.2.2.2.2.1, mj_AOA_moved ha h.2.2.2.2.2.2.1, va_Nw.same rfl hv h.2.2.2.2.2.2.2⟩
theorem mj_blind (av : List Value) (base : Nat) (D : va_G) (cA : Nat → ClassId) (h : mj_H) : FrameBlind (va_Pc av (mj_B base D cA h)) := fun a U g mk q => ⟨q.1, q.2.1, va_K.moved (u := U) (U := U.calling g mk a) (Vm.Alike.refl U.vm) q.2.2.1, mj_N_vm rfl q.2.2.2⟩
/-- static facts of a call -/
def mj_K0 (μ ν : mj_Y) (n : Nat) : Prop := plainFor ν.1 = true ∧ ν.1 ≠ yL_law ∧ Cond.code ν.1 ν.2.1 ν.2.2.1 ν.2.2.2.1 ∈ lw_g ∧ Cond.initialized ν.1.cls ∈ lw_g ∧ (ν.1.cls ≠ "java/lang/invoke/MethodHandle" ∧ ν.1.cls ≠ "java/lang/invoke/VarHandle" ∧ (parseMethodDescriptor ν.1.desc).map (fun d => d.parameters.length) = some n) ∧ (ν.2.2.2.2.1 + 1 ≤ μ.2.2.2.2.1 ∧ 8 + (ν.2.2.1 + 11) + ν.2.2.2.2.2 ≤ μ.2.2.2.2.2)
def mj_KS (μ ν : mj_Y) (idx n : Nat) : Prop := mj_K0 μ ν n ∧ Cond.methodLink μ.1.cls idx ν.1 ∈ lw_g ∧ Cond.static ν.1 ∈ lw_g
def mj_KV (μ ν : mj_Y) (idx ci n : Nat) : Prop := mj_K0 μ ν n ∧ Cond.methodLink μ.1.cls idx ν.1 ∈ lw_g ∧ Cond.instanceMethod ν.1 ∈ lw_g ∧ Cond.selects ν.1.cls ν.1 ν.1 ∈ lw_g ∧ ∃ T N, mj_classes[ci]? = some (ν.1.cls, T, N)
def mj_KI (μ ν : mj_Y) (idx n : Nat) : Prop := mj_K0 μ ν n ∧ Cond.methodLink μ.1.cls idx ν.1 ∈ lw_g ∧ Cond.instanceMethod ν.1 ∈ lw_g ∧ ν.1.name = "<init>" ∧ ν.2.2.2.1 = none
def mj_KN (μ ν : mj_Y) (idx n : Nat) : Prop := mj_K0 μ ν n ∧ (∀ s : State, mj_N s → va_Nw (.methodLinkNest μ.1.cls idx ν.1 "TileOffice") s) ∧ Cond.instanceMethod ν.1 ∈ lw_g ∧ ν.1.name = "<init>" ∧ ν.2.2.2.1 = none
theorem mj_good (ν : mj_Y) (h : Cond.code ν.1 ν.2.1 ν.2.2.1 ν.2.2.2.1 ∈ lw_g) : GoodIn lw_g (mj_ws ν) := by
  intro w hw
  have hg : ∀ w ∈ lw_g, w ∈ lw_g ∧ ((w.onTables && w.keeps) = true ∨ ∃ ty, w = .arrayClass ty) := fun w h => ⟨h, good_of_word (List.mem_filter.mp h).2⟩
  rcases List.mem_cons.mp hw with rfl | hw
  · exact hg _ h
  · exact hg w hw
section MJC
variable {S : mj_S} {μ ν : mj_Y} {pc idx n ci : Nat} {ls : mj_L} {st stk : List Value} {h : mj_H} {Q Qr : Option Value → mj_H → Prop} {as : List Value}
/-- from a call that the kit runs to what goes on behind it -/
theorem mj_run {p : Program} {l : Launch} {e : Env} {R : Room} {s : State} {m : MethodId} {args : Array Value} {below : List Frame} {meth : Method} {c : Code} {b base : Nat} {D : va_G} {cA : Nat → ClassId} {H : Heap} {locs : List Loc} {cells slots mc ms : Nat} {Q : State → Prop} {rls : Array Slot} {rstk : List Value} {r1 : Option Value} {h1 : mj_H} {av : Array Value}
    (hr : va_Run p l e R s m args below meth c H locs cells slots mc ms (F0 m pc rls rstk) (st.map (mj_v b base)) (mj_Qc b base D cA r1 h1 av) (fun q => base ≤ q)) (V : va_S (fun q => base ≤ q) s.heap H locs)
    (k : ∀ (H1 : Heap) (locs1 : List Loc), mj_P base D cA h1 H1 → va_S (fun q => base ≤ q) s.heap H1 locs1 → W p l e R s m args below meth c H1 locs1 (cells + mc) (slots + ms) Q (F0 m (pc + 3) rls ((r1.toList ++ st).map (mj_v b base)))) : W p l e R s m args below meth c H locs cells slots Q (F0 m pc rls rstk) := by
  intro T hT X
  obtain ⟨v, st₀, t, T', L, h0, X', hL, e1, e2, ⟨hv, P1, hz, hk⟩, go⟩ := hr T hT X
  have hv : v = r1.map (mj_v b base) := by cases hv; rfl
  subst hv
  rw [h0] at hz hk
  have V1 : va_S (fun q => base ≤ q) s.heap T'.heap (locs ++ L) := by
    refine ⟨by rw [e1]; exact Nat.le_trans V.1 hz, fun q q1 q2 => ?_, fun q hq => ?_⟩
    · rw [e1, hk q (Nat.lt_of_lt_of_le q1 V.1) q2]
      exact V.2.1 q q1 q2
    · rcases List.mem_append.mp hq with z | z
      · exact V.2.2 q z
      · exact hL q z
  obtain ⟨t2, a1, b1⟩ := k T'.heap _ (by rw [e1]; exact P1) V1 T' rfl X'
  refine ⟨t2, go t2 ?_, b1⟩
  have es : (Option.map (mj_v b base) r1).toList ++ st.map (mj_v b base) = (r1.toList ++ st).map (mj_v b base) := by cases r1 <;> simp
  show Steps p.tables e below (T'.setTop { F0 m pc rls rstk with pc := pc + 3, stack := (Option.map (mj_v b base) r1).toList ++ st.map (mj_v b base) }) t2
  rw [es]
  exact a1
/-- the rule of calls, whatever kind of call -/
theorem mj_callX (hc : Ex S ν 0 (mj_ent ν.2.2.1 as) [] h Qr) (k : ∀ r h1, Qr r h1 → Ex S μ (pc + 3) ls (r.toList ++ st) h1 Q)
    (hrun : ∀ {p : Program} {l : Launch} {e : Env} {R : Room} {s : State} {m : MethodId} {args : Array Value} {below : List Frame} {meth : Method} {c : Code} {b base : Nat} {D : va_G} {cA : Nat → ClassId} {H : Heap} {locs : List Loc} {cells slots mc ms : Nat} {rls : Array Slot} {r1 : Option Value} {h1 : mj_H},
      mj_C S μ p R s m args meth c b base D cA → mj_P base D cA h H → mj_l b base ls rls → Met l ν.1 (mj_ws ν) ({ frames := ν.2.2.2.2.1, cells := mc, slots := ms, locals := ν.2.2.2.2.2 }) (va_Pc (as.map (mj_v b base)) (mj_B base D cA h)) (mj_Qc b base D cA r1 h1) mc ms (fun q => base ≤ q) → cells + mc ≤ R.cells ∧ slots + ms ≤ R.slots →
      (∀ U : State, U.heap = H → s.WarmedH U.vm → mj_B base D cA h U) → va_Run p l e R s m args below meth c H locs cells slots mc ms (F0 m pc rls (stk.map (mj_v b base))) (st.map (mj_v b base)) (mj_Qc b base D cA r1 h1 (as.map (mj_v b base)).toArray) (fun q => base ≤ q))
    (hpl : plainFor ν.1 = true) (hlaw : ν.1 ≠ yL_law) (hlen : (mj_sl as).length ≤ ν.2.2.1) : Ex S μ pc ls stk h Q := by
  obtain ⟨r1, h1, q1, g1⟩ := hc
  obtain ⟨r, h', q, g⟩ := k r1 h1 q1
  have n1 := g1.1
  have z1 := g1.2.1
  have n2 := g.1
  have z2 := g.2.1
  refine ⟨r, h', q, by omega, by omega, ?_⟩
  intro p l e R s m args below meth c b base D cA C n0 z0 Q hn hz hc hl E H locs rls P V L
  have M := mj_met g1 hpl hlaw hlen l b base D cA
  refine mj_run (hrun C P L M ⟨by omega, by omega⟩ (fun U hU hW => ⟨by rw [hU]; exact P, va_K.moved hW.alike C.2.2.2.2.2.2.2.2.2.1, mj_N_warm hW C.2.2.2.2.2.2.2.2.1⟩)) V (fun H1 locs1 P1 V1 => ?_)
  have z := g.2.2 p l e R s m args below meth c b base D cA C n0 z0 Q (by omega) (by omega) hc hl E H1 locs1 rls P1 V1 L
  rw [show mN h1 - n0 = mN h - n0 + (mN h1 - mN h) by omega, show mZ h1 - z0 = mZ h - z0 + (mZ h1 - mZ h) by omega] at z
  exact z
theorem mj_room8 {m : MethodId} {rls : Array Slot} {x : List Value} {b base : Nat} {st : List Value} (h : mj_cat st ≤ 8) : 2 * (F0 m pc rls x).monitorRoom + ((st.map (mj_v b base)).map fun v => v.category).sum ≤ 8 := by
  rw [mj_cat_map]
  show 2 * 0 + _ ≤ 8
  omega
theorem Ex_callS (hd : decode μ.2.1 pc = .ok (.invokestatic idx, 3)) (hk : mj_KS μ ν idx n) (as : List Value) (hn : as.length = n) (hs : (mj_sl as).length ≤ ν.2.2.1) (hst : mj_cat st ≤ 8) (hl : ls.length = μ.2.2.1) (hstk : as.reverse ++ st = stk) (hc : Ex S ν 0 (mj_ent ν.2.2.1 as) [] h Qr) (k : ∀ r h1, Qr r h1 → Ex S μ (pc + 3) ls (r.toList ++ st) h1 Q) : Ex S μ pc ls stk h Q := by
  subst hstk
  obtain ⟨⟨k1, k2, k3, k4, k5, k6⟩, k7, k8⟩ := hk
  refine mj_callX hc k (fun {p l e R s m args below meth c b base D cA H locs cells slots mc ms rls r1 h1} C P L M hf hB => ?_) k1 k2 hs
  have hts := C.2.2.2.2.2.2.2.1
  have hR : ν.2.2.2.2.1 + 1 ≤ R.frames ∧ 8 + (ν.2.2.1 + 11) + ν.2.2.2.2.2 ≤ R.locals := ⟨Nat.le_trans k6.1 C.2.2.2.2.2.2.2.2.2.2.1, Nat.le_trans k6.2 C.2.2.2.2.2.2.2.2.2.2.2.1⟩
  exact va_runS (As := as.map (mj_v b base)) (rest := st.map (mj_v b base)) ⟨C.1, C.2.1, C.2.2.1, C.2.2.2.1, hts⟩ M ⟨callB_of n hts (mj_good ν k3) rfl rfl rfl (hts _ k4) (hts _ k7) k5 hR, hts _ k8⟩ ⟨mj_blind _ _ _ _ _, fun U hU hW => ⟨rfl, hB U hU hW⟩⟩ rfl (by rw [List.length_map]; exact hn) (by show rls.size = _; rw [L.1, hl]) (by show List.map _ _ = _; rw [List.map_append, List.map_reverse]) (mj_room8 hst) hd hf
theorem Ex_callV {x w : Nat} (hd : decode μ.2.1 pc = .ok (.invokevirtual idx, 3)) (hk : mj_KV μ ν idx ci n) (as : List Value) (hn : as.length = n) (ht : mT h x = some (10 + ci, w)) (hs : (mj_sl (.ref x :: as)).length ≤ ν.2.2.1) (hst : mj_cat st ≤ 8) (hl : ls.length = μ.2.2.1) (hstk : as.reverse ++ .ref x :: st = stk) (hc : Ex S ν 0 (mj_ent ν.2.2.1 (.ref x :: as)) [] h Qr) (k : ∀ r h1, Qr r h1 → Ex S μ (pc + 3) ls (r.toList ++ st) h1 Q) : Ex S μ pc ls stk h Q := by
  subst hstk
  obtain ⟨⟨k1, k2, k3, k4, k5, k6⟩, k7, k8, k9, T, N, k10⟩ := hk
  refine mj_callX hc k (fun {p l e R s m args below meth c b base D cA H locs cells slots mc ms rls r1 h1} C P L M hf hB => ?_) k1 k2 hs
  have hts := C.2.2.2.2.2.2.2.1
  have hK : va_K D mj_classes (mj_tys cA) s := C.2.2.2.2.2.2.2.2.2.1
  have hR : ν.2.2.2.2.1 + 1 ≤ R.frames ∧ 8 + (ν.2.2.1 + 11) + ν.2.2.2.2.2 ≤ R.locals := ⟨Nat.le_trans k6.1 C.2.2.2.2.2.2.2.2.2.2.1, Nat.le_trans k6.2 C.2.2.2.2.2.2.2.2.2.2.2.1⟩
  have ev := mj_w_get (base := base) (cA := cA) ht
  rw [mj_e_obj] at ev
  exact va_runV (C := ν.1.cls) (b := base + x) (As := as.map (mj_v b base)) (rest := st.map (mj_v b base)) ⟨C.1, C.2.1, C.2.2.1, C.2.2.2.1, hts⟩ M ⟨callB_of n hts (mj_good ν k3) rfl rfl rfl (hts _ k4) (hts _ k7) k5 hR, hts _ k8, hts _ k9⟩ ⟨mj_blind _ _ _ _ _, va_recv hK P.1 k10 ev, fun U hU hW => ⟨rfl, hB U hU hW⟩⟩ rfl (by rw [List.length_map]; exact hn) (by show rls.size = _; rw [L.1, hl]) (by show List.map _ _ = _; rw [List.map_append, List.map_reverse]; rfl) (mj_room8 hst) hd hf
theorem Ex_callI {x : Nat} (hd : decode μ.2.1 pc = .ok (.invokespecial idx, 3)) (hk : mj_KI μ ν idx n) (as : List Value) (hn : as.length = n) (hs : (mj_sl (.ref x :: as)).length ≤ ν.2.2.1) (hst : mj_cat st ≤ 8) (hl : ls.length = μ.2.2.1) (hstk : as.reverse ++ .ref x :: st = stk) (hc : Ex S ν 0 (mj_ent ν.2.2.1 (.ref x :: as)) [] h Qr) (k : ∀ r h1, Qr r h1 → Ex S μ (pc + 3) ls (r.toList ++ st) h1 Q) : Ex S μ pc ls stk h Q := by
  subst hstk
  obtain ⟨⟨k1, k2, k3, k4, k5, k6⟩, k7, k8, k9, k10⟩ := hk
  refine mj_callX hc k (fun {p l e R s m args below meth c b base D cA H locs cells slots mc ms rls r1 h1} C P L M hf hB => ?_) k1 k2 hs
  have hts := C.2.2.2.2.2.2.2.1
  have hR : ν.2.2.2.2.1 + 1 ≤ R.frames ∧ 8 + (ν.2.2.1 + 11) + ν.2.2.2.2.2 ≤ R.locals := ⟨Nat.le_trans k6.1 C.2.2.2.2.2.2.2.2.2.2.1, Nat.le_trans k6.2 C.2.2.2.2.2.2.2.2.2.2.2.1⟩
  have hw : mj_ws ν = Cond.code ν.1 ν.2.1 ν.2.2.1 none :: lw_g := by unfold mj_ws; rw [k10]
  exact va_runI (b := base + x) (As := as.map (mj_v b base)) (rest := st.map (mj_v b base)) ⟨C.1, C.2.1, C.2.2.1, C.2.2.2.1, hts⟩ M ⟨callB_of n hts (mj_good ν k3) hw rfl rfl (hts _ k4) (hts _ k7) k5 hR, k9, hts _ k8⟩ ⟨mj_blind _ _ _ _ _, fun U hU hW => ⟨rfl, hB U hU hW⟩⟩ rfl (by rw [List.length_map]; exact hn) (by show rls.size = _; rw [L.1, hl]) (by show List.map _ _ = _; rw [List.map_append, List.map_reverse]; rfl) (mj_room8 hst) hd hf
theorem Ex_callN {x : Nat} (hd : decode μ.2.1 pc = .ok (.invokespecial idx, 3)) (hk : mj_KN μ ν idx n) (as : List Value) (hn : as.length = n) (hs : (mj_sl (.ref x :: as)).length ≤ ν.2.2.1) (hst : mj_cat st ≤ 8) (hl : ls.length = μ.2.2.1) (hstk : as.reverse ++ .ref x :: st = stk) (hc : Ex S ν 0 (mj_ent ν.2.2.1 (.ref x :: as)) [] h Qr) (k : ∀ r h1, Qr r h1 → Ex S μ (pc + 3) ls (r.toList ++ st) h1 Q) : Ex S μ pc ls stk h Q := by
  subst hstk
  obtain ⟨⟨k1, k2, k3, k4, k5, k6⟩, k7, k8, k9, k10⟩ := hk
  refine mj_callX hc k (fun {p l e R s m args below meth c b base D cA H locs cells slots mc ms rls r1 h1} C P L M hf hB => ?_) k1 k2 hs
  have hts := C.2.2.2.2.2.2.2.1
  have hR : ν.2.2.2.2.1 + 1 ≤ R.frames ∧ 8 + (ν.2.2.1 + 11) + ν.2.2.2.2.2 ≤ R.locals := ⟨Nat.le_trans k6.1 C.2.2.2.2.2.2.2.2.2.2.1, Nat.le_trans k6.2 C.2.2.2.2.2.2.2.2.2.2.2.1⟩
  have hw : mj_ws ν = Cond.code ν.1 ν.2.1 ν.2.2.1 none :: lw_g := by unfold mj_ws; rw [k10]
  exact va_runIN (b := base + x) (As := as.map (mj_v b base)) (rest := st.map (mj_v b base)) ⟨C.1, C.2.1, C.2.2.1, C.2.2.2.1, hts⟩ M ⟨va_cnB n hts (mj_good ν k3) hw rfl rfl (k7 s C.2.2.2.2.2.2.2.2.1) (hts _ k4) k5 hR, k9, hts _ k8⟩ ⟨mj_blind _ _ _ _ _, fun U hU hW => ⟨rfl, hB U hU hW⟩⟩ rfl (by rw [List.length_map]; exact hn) (by show rls.size = _; rw [L.1, hl]) (by show List.map _ _ = _; rw [List.map_append, List.map_reverse]; rfl) (mj_room8 hst) hd hf
end MJC
