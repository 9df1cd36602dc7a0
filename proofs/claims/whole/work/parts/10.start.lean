/-! THE CLAIM OUT OF ONE WALK OF THE LAW'S BODY. Your part is whole_start (and what it stands on); all else here is the same for every law, but numbers. -/
def R_law : String := "TileOfficeLaw"
def lw_P (b : Addr) (xs : List Int32) (args : Array Value) (s : State) : Prop := args = #[.ref b] ∧ s.IntsAt b xs ∧ xs.length ≤ 3584 ∧ (Jvm.Cond.and given_1 narrow_1).before args s = true
def lw_Q (_ : Array Value) (s : State) (o : Outcome) (t : State) : Prop := o = .returned (some (.int 1)) ∧ Framed s o t [] 600000 7302250
def lw_Z (below : List Frame) (a : Array Value) (s : State) : State → Prop := fun t => ∃ o, t.status = .running ∧ Ended t below o ∧ lw_Q a s o t
/-- the law's own end, with 1 on the stack, nothing written that was there before, its room as the claim has it -/
theorem lw_ret {p : Program} {l : Launch} {e : Env} {s : State} {m : MethodId} {below : List Frame} {meth : Method} {c : Code} {b : Nat} (hx : p.tables.exec = Jvm.exec) (hb : c.code = code) (hr : meth.sig.returnType = ret) (hlocks : meth.locks = false) {pc : Nat} {H : Heap} {ls : Array Slot} (hdg : decode code pc = .ok (.ireturn, 1)) : W p l e room_1 s m #[Value.ref b] below meth c H [] 600000 7302250 (lw_Z below #[Value.ref b] s) (F0 m pc ls [.int 1]) := by
  intro T hT X
  obtain ⟨fs, hret, hrun, hended, hW, hframe⟩ := X.leave (v := some (.int 1)) (hlocks := hlocks) (fun h => by rw [hr] at h; cases h)
  have hmeth' : T.vm.method? m = some meth := X.method'
  refine ⟨T.setFrames fs, ?_, .returned (some (.int 1)), hrun, hended, rfl, ⟨_, rfl⟩, hW, hframe⟩
  jvm_step X.here [X.here.top, hx, hb, hdg, hmeth', hr, ret, narrow_b1]
  (try refine ⟨rfl, ?_⟩); (try refine ⟨rfl, ?_⟩)
  first | (intro acts; rw [hret _ acts rfl rfl rfl]) | rw [hret _ _ rfl rfl rfl]
  exact Steps.refl _
/-- what holds at the law's entry: the machine, the code, the tables' words (any of lw_tbl by 'hts w (by decide +kernel)'), the script of L ints xs at the cell b, what the Statement gives of the start (any of its parts by flat_of_before) -/
def lw_At (p : Program) (s : State) (m : MethodId) (meth : Method) (c : Code) (b L : Nat) (xs : Nat → Int32) : Prop :=
  p.tables.exec = Jvm.exec ∧ c.code = code ∧ meth.sig.returnType = ret ∧ c.maxLocals = 4 ∧ s.vm.findClass R_law = some m.cls ∧ (∀ w ∈ lw_tbl, w.before #[Value.ref b] s = true) ∧ va_X b L xs s s.heap ∧ b < s.heap.size ∧ meth.locks = false ∧ (Jvm.Cond.and given_1 narrow_1).before #[Value.ref b] s = true
/-! From the law's entry on the machine to the small machine. -/
def mj_h0 : mj_H := ([], fun _ _ => 0, fun _ _ => 0, fun _ _ => none)
def mj_arr (s : State) (cA : ClassId) (ty : FieldType) : Prop := ArrOfT s cA ty ∧ va_RA s cA ty
theorem mj_arr_p {s : State} {args : Array Value} {ty : FieldType} (hty : ∀ C, ty ≠ .object C) (h : (Cond.arrayClass ty).before args s = true) : ∃ cA, mj_arr s cA ty := by
  obtain ⟨c, k, comp, h1, h2, h3⟩ := Cond.arrayClass_spec h
  refine ⟨c, fun n z => ⟨fun k h => (by cases h), k, h2, comp, h3⟩, ?_⟩
  cases ty <;> first | exact h1 | exact absurd rfl (hty _)
theorem mj_arr_o {s : State} {C : String} (h : va_AO C s) : ∃ cA, mj_arr s cA (.object C) := by
  obtain ⟨comp, c, k, h1, h2, h3, h4, h5⟩ := Cond.arrayOver_spec h
  exact ⟨c, fun n z => ⟨fun k h => (by cases h), k, h3, comp, h4⟩, k, comp, h3, h4, h1, h5⟩
theorem mj_arr_a {s : State} (h : mj_AOA s) : ∃ cA, mj_arr s cA (.array .int) := by
  obtain ⟨comp, c, k, h1, h2, h3, h4, h5⟩ := arrayOverA_spec h
  exact ⟨c, fun n z => ⟨fun k h => (by cases h), k, h3, comp, h4⟩, h5⟩
set_option maxHeartbeats 4000000 in
theorem mj_start (hEx : ∀ S : mj_S, S.1 ≤ 3584 → Ex S law 0 (mj_ent 4 [.float 0]) [] mj_h0 (fun r h' => r = some (.int 1) ∧ mN h' ≤ 600000 ∧ mZ h' ≤ 7302250))
    {p : Program} {e : Env} {s : State} {m : MethodId} {below : List Frame} {meth : Method} {c : Code} (l : Launch) {b L : Nat} {xs : Nat → Int32} (hL : L ≤ 3584) (C0 : lw_At p s m meth c b L xs) : W p l e room_1 s m #[Value.ref b] below meth c s.heap [] 0 0 (lw_Z below #[Value.ref b] s) (entryFrame m ([Value.ref b] : List Value).toArray 4) := by
  obtain ⟨hx, hb, hr, hml, hown, hts, hX, hbl, hlocks, hgv⟩ := id C0
  have htg : ∀ w ∈ lw_g, w.before #[Value.ref b] s = true := fun w hw => hts w (List.mem_filter.mp hw).1
  have hh : ∀ ci : Nat, ∃ x : ClassId × (Nat → Nat), ∀ q, mj_classes[ci]? = some q → u_Kn s q.1 q.2.1 q.2.2 x.1 x.2 := by
    intro ci
    cases hq : mj_classes[ci]? with
    | none => exact ⟨(m.cls, fun _ => 0), fun q h => by cases h⟩
    | some q =>
      obtain ⟨C, T, N⟩ := q
      have ok := mj_cl ci C T N hq
      obtain ⟨cC, iS, hK⟩ := u_known (n := N) htg ok.1 (htg _ ok.2.2.2.2.1)
      exact ⟨(cC, iS), fun q h => by cases h; exact hK⟩
  obtain ⟨f, hf⟩ := Classical.axiomOfChoice hh
  have hN : mj_N s := ⟨va_Nw.of rfl (hts _ (by decide +kernel)), va_Nw.of rfl (hts _ (by decide +kernel)), va_Nw.of rfl (hts _ (by decide +kernel)), va_AO.of (hts (.arrayOver (.object RX7)) (by decide +kernel)), va_AO.of (hts (.arrayOver (.object RX9)) (by decide +kernel)), va_AO.of (hts (.arrayOver (.object RX4)) (by decide +kernel)), (hts (.arrayOver (.array .int)) (by decide +kernel)), va_Nw.of rfl (hts _ (by decide +kernel))⟩
  obtain ⟨c0, a0⟩ := mj_arr_p (by intro C h; cases h) (htg _ pw_ai)
  obtain ⟨c1, a1⟩ := mj_arr_p (by intro C h; cases h) (htg _ pw_al)
  obtain ⟨c2, a2⟩ := mj_arr_p (by intro C h; cases h) (htg _ pw_ab)
  obtain ⟨c3, a3⟩ := mj_arr_a hN.2.2.2.2.2.2.1
  obtain ⟨c4, a4⟩ := mj_arr_o hN.2.2.2.1
  obtain ⟨c5, a5⟩ := mj_arr_o hN.2.2.2.2.1
  obtain ⟨c6, a6⟩ := mj_arr_o hN.2.2.2.2.2.1
  obtain ⟨cA, e0, e1, e2, e3, e4, e5, e6⟩ : ∃ cA : Nat → ClassId, cA 0 = c0 ∧ cA 1 = c1 ∧ cA 2 = c2 ∧ cA 3 = c3 ∧ cA 4 = c4 ∧ cA 5 = c5 ∧ cA 6 = c6 :=
    ⟨fun t => match t with
      | 0 => c0
      | 1 => c1
      | 2 => c2
      | 3 => c3
      | 4 => c4
      | 5 => c5
      | _ => c6, rfl, rfl, rfl, rfl, rfl, rfl, rfl⟩
  subst e0 e1 e2 e3 e4 e5 e6
  have hK : va_K (fun k => (f k).1, fun k => (f k).2) mj_classes (mj_tys cA) s := by
    refine ⟨fun ci q hq => hf ci q hq, fun k q hq => ?_⟩
    match k, hq with
    | 0, hq => cases hq; exact a0
    | 1, hq => cases hq; exact a1
    | 2, hq => cases hq; exact a2
    | 3, hq => cases hq; exact a3
    | 4, hq => cases hq; exact a4
    | 5, hq => cases hq; exact a5
    | 6, hq => cases hq; exact a6
    | n + 7, hq => cases hq
  obtain ⟨r, h', ⟨hr1, hn1, hz1⟩, g1, g2, g⟩ := hEx (L, xs) hL
  subst hr1
  have C : mj_C (L, xs) law p room_1 s m #[Value.ref b] meth c b s.heap.size (fun k => (f k).1, fun k => (f k).2) cA :=
    ⟨hx, hb, hml, hown, hr, hlocks, fun z => absurd z (by decide), htg, hN, hK, by decide, by decide, Nat.le_refl _, fun _ => ⟨hX, hbl⟩⟩
  have key := g p l e room_1 s m #[Value.ref b] below meth c b s.heap.size _ cA C 0 0 (lw_Z below #[Value.ref b] s) (Nat.zero_le _) (Nat.zero_le _) hn1 hz1 ?_ s.heap [] ((lg_sl ([Value.ref b]) ++ List.replicate (4 - (lg_sl ([Value.ref b])).length) Slot.unset).toArray) ⟨fun k q h => by simp [mj_w, mj_h0] at h, rfl⟩ va_S.rf (mj_entry (as := [.float 0]) (by decide))
  · rw [lg_entry_eq]
    exact key
  · intro H locs rls pc P V hret
    obtain ⟨ty, h1, h2, h3⟩ := hret
    refine va_forget (fun q hq => V.2.2 q hq) ?_
    refine W.widen (k := 600000) (n := 7302250) (by omega) (by omega) ?_
    exact lw_ret hx hb hr hlocks h3
