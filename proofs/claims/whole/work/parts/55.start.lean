/-! THE START: what the Statement gives is what my machine asks -/
theorem st_class {s : State} {A : Array Value} (hts : ∀ w ∈ xT, w.before A s = true) {ci : Nat} {C : String} {T : u_T} {N : Nat} {ty : Nat → FieldType} (k : xCls ci C T N ty) (n : Cond.instantiable C N ∈ xT ∧ Cond.initialized C ∈ xT) : ∃ d : ClassId × (Nat → Nat), ∀ q : vw_C, vwCl[ci]? = some q → u_Kn s q.1 q.2.1 q.2.2 d.1 d.2 := by
  obtain ⟨cC, iS, h⟩ := u_known hts k.2.1 (hts _ n.1)
  exact ⟨(cC, iS), fun q hq => by rw [k.1] at hq; cases hq; exact h⟩
theorem st_classes {s : State} {A : Array Value} (hts : ∀ w ∈ xT, w.before A s = true) : ∃ D : va_G, ∀ (c : Nat) (q : vw_C), vwCl[c]? = some q → u_Kn s q.1 q.2.1 q.2.2 (D.1 c) (D.2 c) := by
  have h : ∀ c : Nat, ∃ d : ClassId × (Nat → Nat), ∀ q : vw_C, vwCl[c]? = some q → u_Kn s q.1 q.2.1 q.2.2 d.1 d.2 := by
    intro c
    match c with
    | 0 => exact st_class hts k_Op n_Op
    | 1 => exact st_class hts k_Cn n_Cn
    | 2 => exact st_class hts k_Pa n_Pa
    | 3 => exact st_class hts k_Ru n_Ru
    | 4 => exact st_class hts k_St n_St
    | 5 => exact st_class hts k_Ta n_Ta
    | 6 => exact st_class hts k_To n_To
    | 7 => exact st_class hts k_CB n_CB
    | 8 => exact st_class hts k_Mo n_Mo
    | k + 9 => exact ⟨(0, fun _ => 0), fun q hq => by rw [List.getElem?_eq_none (by show 9 ≤ k + 9; omega)] at hq; cases hq⟩
  obtain ⟨D, hD⟩ := Classical.axiomOfChoice h
  exact ⟨(fun c => (D c).1, fun c => (D c).2), hD⟩
theorem st_arrI {s : State} {A : Array Value} (h : (Cond.arrayClass .int).before A s = true) : ∃ cA : ClassId, ArrOfT s cA .int ∧ va_RA s cA .int := by
  obtain ⟨c, k, comp, h1, h2, h3⟩ := Cond.arrayClass_spec h
  exact ⟨c, fun n z => ⟨fun k h => (by cases h), k, h2, comp, h3⟩, h1⟩
theorem st_arrJ {s : State} {A : Array Value} (h : (Cond.arrayClass .long).before A s = true) : ∃ cA : ClassId, ArrOfT s cA .long ∧ va_RA s cA .long := by
  obtain ⟨c, k, comp, h1, h2, h3⟩ := Cond.arrayClass_spec h
  exact ⟨c, fun n z => ⟨fun k h => (by cases h), k, h2, comp, h3⟩, h1⟩
theorem st_arrO {s : State} {C : String} (h : va_AO C s) : ∃ cA : ClassId, ArrOfT s cA (.object C) ∧ va_RA s cA (.object C) := by
  obtain ⟨comp, c, k, h1, h2, h3, h4, h5⟩ := Cond.arrayOver_spec h
  exact ⟨c, fun n z => ⟨fun k h => (by cases h), k, h3, comp, h4⟩, k, comp, h3, h4, h1, h5⟩
theorem st_LS {V : xV} {s : State} {A : Array Value} {n d : String} (hz : V.2.2.2 = s.heap.size) (h1 : (Cond.laysStatic "java/lang/Throwable" n d).before A s = true) (h2 : (Cond.isRef (.static "java/lang/Throwable" n d)).before A s = true) : xLS V n d s := by
  obtain ⟨c, k, i, f, a, cell, a1, a2, a3, a4, a5, a6, a7, a8, a9⟩ := Cond.laysStatic_spec h1
  obtain ⟨v, hv, hr⟩ := Cond.isRef_spec h2
  have he : (Term.static "java/lang/Throwable" n d).eval A s none [] s = cell.slots[f.slot]? := by
    simp [Term.eval, State.fieldNamed?, a2, a3, a4, a5, a6]
  refine ⟨c, k, i, f, a, cell, v, a1, a2, a3, a4, a5, a6, a7, a8, a9, he.symm.trans hv, hr, ?_⟩
  show ¬ V.2.2.2 ≤ a
  rw [hz]
  have := (Array.getElem?_eq_some_iff.mp a5).1
  omega
theorem st_tx : ∀ q ∈ xTx, Cond.stringRef "CursorBase" q.1 q.2 ∈ lw_tbl := by decide +kernel
theorem st_ao1 : Cond.arrayOver (.object "CursorBase$Operand") ∈ lw_tbl := by decide +kernel
theorem st_ao2 : Cond.arrayOver (.object "CursorBase$Condition") ∈ lw_tbl := by decide +kernel
theorem st_ls1 : Cond.laysStatic "java/lang/Throwable" "UNASSIGNED_STACK" "[Ljava/lang/StackTraceElement;" ∈ lw_tbl := by decide +kernel
theorem st_ls2 : Cond.laysStatic "java/lang/Throwable" "SUPPRESSED_SENTINEL" "Ljava/util/List;" ∈ lw_tbl := by decide +kernel
theorem st_no : ∀ q ∈ xNo, Cond.not (.castable q.1 q.2) ∈ flatC (Jvm.Cond.and given_1 narrow_1) := by decide +kernel
theorem st_rf1 : Cond.isRef (.static "java/lang/Throwable" "UNASSIGNED_STACK" "[Ljava/lang/StackTraceElement;") ∈ flatC (Jvm.Cond.and given_1 narrow_1) := by decide +kernel
theorem st_rf2 : Cond.isRef (.static "java/lang/Throwable" "SUPPRESSED_SENTINEL" "Ljava/util/List;") ∈ flatC (Jvm.Cond.and given_1 narrow_1) := by decide +kernel
theorem st_E {s : State} {A : Array Value} (l : Launch) (hfl : l.stackTraces = false) (hts : ∀ w ∈ lw_tbl, w.before A s = true) (hgv : (Jvm.Cond.and given_1 narrow_1).before A s = true) : ∃ V : xV, V.1 = l ∧ V.2.2.2 = s.heap.size ∧ xE V s := by
  have hT : ∀ w ∈ xT, w.before A s = true := fun w hw => hts w (List.mem_filter.mp hw).1
  have hfl9 := flat_of_before _ hgv
  have hO1 : va_AO "CursorBase$Operand" s := va_AO.of (hts _ st_ao1)
  have hO2 : va_AO "CursorBase$Condition" s := va_AO.of (hts _ st_ao2)
  obtain ⟨D, hD⟩ := st_classes hT
  obtain ⟨cI, i1, i2⟩ := st_arrI (hT _ ac_int)
  obtain ⟨cJ, j1, j2⟩ := st_arrJ (hT _ ac_long)
  obtain ⟨cO, o1, o2⟩ := st_arrO hO1
  obtain ⟨cC, c1, c2⟩ := st_arrO hO2
  obtain ⟨cB, kB, hcB, -⟩ := Cond.instantiable_spec (hT _ n_CB.1)
  refine ⟨(l, D, fun k => [cI, cJ, cO, cC].getD k 0, s.heap.size), rfl, rfl, ⟨hD, ?_⟩, ?_, hO1, hO2, hfl, ?_, ?_, ?_, ?_, ?_⟩
  · intro k q hk
    match k, hk with
    | 0, hk => cases hk; exact ⟨i1, i2⟩
    | 1, hk => cases hk; exact ⟨j1, j2⟩
    | 2, hk => cases hk; exact ⟨o1, o2⟩
    | 3, hk => cases hk; exact ⟨c1, c2⟩
    | n + 4, hk => rw [List.getElem?_eq_none (by show 4 ≤ n + 4; omega)] at hk; cases hk
  · intro w hw
    obtain ⟨h1, h2⟩ := List.mem_filter.mp hw
    have h3 := hts w h1
    cases w <;> first | exact va_Nw.of rfl h3 | (simp [xnw] at h2)
  · intro w hw
    obtain ⟨h1, h2⟩ := List.mem_filter.mp hw
    have h3 := hts w h1
    cases w <;> first | exact va_Nw.of rfl h3 | (simp [xnx] at h2)
  · intro q hq
    have h3 := hfl9 _ (st_no q hq)
    simp only [va_Nw, Cond.before, Cond.holds, Cond.value] at h3 ⊢
    exact h3
  · intro q hq
    have h3 := hts _ (st_tx q hq)
    obtain ⟨k, cf, i, a, -, -, -, -, -, he⟩ := Cond.stringRef_spec hcB h3
    exact ⟨a, vk_R.of h3 he⟩
  · exact st_LS rfl (hts _ st_ls1) (hfl9 _ st_rf1)
  · exact st_LS rfl (hts _ st_ls2) (hfl9 _ st_rf2)
/-! THE CLAIM OUT OF ONE WALK OF THE LAW'S BODY. Your part is whole_start (and what it stands on); all else here is the same for every law, but numbers. -/
def R_law : String := "CursorBaseLaw"
def lw_P (b : Addr) (xs : List Int32) (args : Array Value) (s : State) : Prop := args = #[.ref b] ∧ s.IntsAt b xs ∧ xs.length ≤ 2048 ∧ (Jvm.Cond.and given_1 narrow_1).before args s = true
def lw_Q (_ : Array Value) (s : State) (o : Outcome) (t : State) : Prop := o = .returned (some (.int 1)) ∧ Framed s o t [] 601024 7293034
def lw_Z (below : List Frame) (a : Array Value) (s : State) : State → Prop := fun t => ∃ o, t.status = .running ∧ Ended t below o ∧ lw_Q a s o t
/-- the law's own end, with 1 on the stack, nothing written that was there before, its room as the claim has it -/
theorem lw_ret {p : Program} {l : Launch} {e : Env} {s : State} {m : MethodId} {below : List Frame} {meth : Method} {c : Code} {b : Nat} (hx : p.tables.exec = Jvm.exec) (hb : c.code = code) (hr : meth.sig.returnType = ret) (hlocks : meth.locks = false) {pc : Nat} {H : Heap} {ls : Array Slot} (hdg : decode code pc = .ok (.ireturn, 1)) : W p l e room_1 s m #[Value.ref b] below meth c H [] 601024 7293034 (lw_Z below #[Value.ref b] s) (F0 m pc ls [.int 1]) := by
  intro T hT X
  obtain ⟨fs, hret, hrun, hended, hW, hframe⟩ := X.leave (v := some (.int 1)) (hlocks := hlocks) (fun h => by rw [hr] at h; cases h)
  have hmeth' : T.vm.method? m = some meth := X.method'
  refine ⟨T.setFrames fs, ?_, .returned (some (.int 1)), hrun, hended, rfl, ⟨_, rfl⟩, hW, hframe⟩
  jvm_step X.here [X.here.top, hx, hb, hdg, hmeth', hr, ret, narrow_b1]
  (try refine ⟨rfl, ?_⟩); (try refine ⟨rfl, ?_⟩)
  first | (intro acts; rw [hret _ acts rfl rfl rfl]) | rw [hret _ _ rfl rfl rfl]
  exact Steps.refl _
/-- what holds at the law's entry: the machine, the code, the tables' words (any of lw_tbl by 'hts w (by decide +kernel)'), the script of L ints xs at the cell b, what the Statement gives of the start (any of its parts by flat_of_before) -/
def lw_At (p : Program) (s : State) (m : MethodId) (meth : Method) (c : Code) (b L : Nat) (xs : Nat → Int32) : Prop :=
  p.tables.exec = Jvm.exec ∧ c.code = code ∧ meth.sig.returnType = ret ∧ c.maxLocals = 8 ∧ s.vm.findClass R_law = some m.cls ∧ (∀ w ∈ lw_tbl, w.before #[Value.ref b] s = true) ∧ va_X b L xs s s.heap ∧ b < s.heap.size ∧ meth.locks = false ∧ (Jvm.Cond.and given_1 narrow_1).before #[Value.ref b] s = true
set_option maxHeartbeats 4000000 in
/-- from the entry, for every script of at most 2048 ints, the law comes to its end with true -/
theorem whole_start {p : Program} {e : Env} {s : State} {m : MethodId} {below : List Frame} {meth : Method} {c : Code} (l : Launch) (hfl : l.stackTraces = false) {b L : Nat} {xs : Nat → Int32} (hL : L ≤ 2048) (C0 : lw_At p s m meth c b L xs) : W p l e room_1 s m #[Value.ref b] below meth c s.heap [] 0 0 (lw_Z below #[Value.ref b] s) (entryFrame m ([Value.ref b] : List Value).toArray 8) := by
  obtain ⟨hx, hc, hr, hml, hown, hts, hX, hbl, hlk, hgv⟩ := C0
  obtain ⟨V, rfl, hz, hE⟩ := st_E l hfl hts hgv
  have C : lawC V (xX V false p e room_1 s m #[Value.ref b] below meth c 8 (lw_Z below #[Value.ref b] s)) b L xs := by
    refine ⟨⟨p, e, room_1, s, m, #[.ref b], below, meth, c, _, ⟨hx, hc, hml, hown, fun w hw => hts w (List.mem_filter.mp hw).1, hE, Nat.le_of_eq hz, by decide, by decide⟩, fun q => (nomatch q), fun b' L' xs' q => ?_, rfl⟩, ?_⟩
    · cases q
      exact ⟨hX, by rw [hz]; exact hbl⟩
    · intro mc ms h pc lv st v hr9 hp
      intro H locs cells slots ls hR hS hG hmc hms hl
      have hp9 : v = some (.int 1) := hp
      subst hp9
      have h1 : cells ≤ 601024 := by have : cells + mc ≤ 601024 := hmc; omega
      have h2 : slots ≤ 7293034 := by have : slots + ms ≤ 7293034 := hms; omega
      rcases hr9 with ⟨hd, hr0, -, -⟩ | ⟨hd, ty, x, hr0, hn0, rfl, hx1⟩ | ⟨hd, x, hr0, -, -⟩ | ⟨hd, n, u, hr0, -⟩
      · cases hr0
      · cases hx1
        exact va_forget (fun q hq => by have h9 : V.2.2.2 ≤ q.base := hS.2.2 q hq; rw [hz] at h9; exact h9) (W.widen h1 h2 (lw_ret hx hc hr hlk hd))
      · cases hr0
      · cases hr0
  have hl := lv_entry [Value.ref b] (n := 8) (Nat.le_of_ble_eq_true rfl)
  rw [lg_entry_eq]
  exact law_start C hL s.heap [] 0 0 _ ⟨[], fun _ => .inr (0, []), fun q e h => (nomatch h), fun k q h => (nomatch h), fun i j p q h => (nomatch h), fun k q h => (nomatch h)⟩ va_S.rf (fun q => nomatch q) (by decide) (by decide) hl
