/-! THE MACHINE, AS I WALK IT. A view h of the heap: address -> what lies there (a cell of the kit's worlds), for the cells that the law has made since its start. K mc ms h pc lv st: 'from here the method comes to its end', with mc cells and ms slots still to spend. -/
abbrev xH : Type := Nat → Option va_E
/-- launch; numbers of classes and of slots; classes of arrays (0 int, 1 long, 2 Operand, 3 Condition); the heap's size at the law's start -/
abbrev xV : Type := Launch × va_G × (Nat → ClassId) × Nat
abbrev xA (V : xV) : Nat → Prop := fun q => V.2.2.2 ≤ q
abbrev xTy (V : xV) : List (ClassId × FieldType) := [(V.2.2.1 0, .int), (V.2.2.1 1, .long), (V.2.2.1 2, .object "CursorBase$Operand"), (V.2.2.1 3, .object "CursorBase$Condition")]
abbrev xI (V : xV) (n : Nat) (f : Nat → Int32) : va_E := .inl (V.2.2.1 0, n, .inl f)
abbrev xJ (V : xV) (n : Nat) (f : Nat → Int64) : va_E := .inl (V.2.2.1 1, n, .inr (.inl f))
abbrev xR (V : xV) (t n : Nat) (f : Nat → Option Nat) : va_E := .inl (V.2.2.1 t, n, .inr (.inr (.inr (.inr f))))
def xRep (V : xV) (h : xH) (H : Heap) : Prop := ∃ (L : List Nat) (f : Nat → va_E), (∀ q e, h q = some e → q ∈ L ∧ f q = e) ∧ va_P V.2.1 vwCl (va_pl L f) H ∧ va_D (xA V) (va_pl L f)
/-- a static of Throwable that holds a reference or null: its cell is older than the law -/
def xLS (V : xV) (n d : String) (U : State) : Prop := ∃ (c : ClassId) (k : Class) (i : Nat) (f : Field) (a : Addr) (cell : Cell) (v : Value), U.vm.findClass "java/lang/Throwable" = some c ∧ U.fieldFound? "java/lang/Throwable" n d = some (c, k, i, f) ∧ f.isStatic = true ∧ k.statics = some a ∧ U.heap[a]? = some cell ∧ cell.vm.isStatics = true ∧ cell.cls = c ∧
  f.slot < cell.slots.size ∧ k.staticTypes[f.slot]? = some f.type ∧ cell.slots[f.slot]? = some v ∧ v.isRef = true ∧ ¬ xA V a
theorem xLS.moved {V : xV} {n d : String} {s U : State} (hW : s.WarmedH U.vm) (hk : ∀ q, q < s.heap.size → ¬ xA V q → U.heap[q]? = s.heap[q]?) (h : xLS V n d s) : xLS V n d U := by
  obtain ⟨c, k, i, f, a, cell, v, h1, h2, h3, h4, h5, h6, h7, h8, h9, h10, h11, h12⟩ := h
  obtain ⟨k', hi', he⟩ := State.fieldFound?_setVm hW.alike h2
  exact ⟨c, k', i, f, a, cell, v, by rw [hW.alike.findClass]; exact h1, hi', h3, by rw [he]; exact h4, by rw [hk a (Array.getElem?_eq_some_iff.mp h5).1 h12]; exact h5, h6, h7, h8, by rw [he]; exact h9, h10, h11, h12⟩
/-- what throwing and catching asks: the launch records no traces; classes' kinship; the messages; Throwable's two statics -/
def xF (V : xV) (U : State) : Prop := V.1.stackTraces = false ∧ (∀ w ∈ xNX, va_Nw w U) ∧ (∀ q ∈ xNo, va_Nw (.not (.castable q.1 q.2)) U) ∧ (∀ q ∈ xTx, ∃ a, vk_R "CursorBase" q.1 q.2 a U) ∧ xLS V "UNASSIGNED_STACK" "[Ljava/lang/StackTraceElement;" U ∧ xLS V "SUPPRESSED_SENTINEL" "Ljava/util/List;" U
theorem va_Nw.warmCn {C T : String} {s U : State} (hW : s.WarmedH U.vm) (hZ : va_Nw (.not (.castable C T)) s) : va_Nw (.not (.castable C T)) U := by
  simp only [va_Nw, Cond.before, Cond.holds, Cond.value, hW.alike.findClass, hW.alike.assignable] at hZ ⊢
  exact hZ
theorem xF.moved {V : xV} {s U : State} (hW : s.WarmedH U.vm) (hk : ∀ q, q < s.heap.size → ¬ xA V q → U.heap[q]? = s.heap[q]?) (h : xF V s) : xF V U := by
  refine ⟨h.1, fun w hw => ?_, fun q hq => va_Nw.warmCn hW (h.2.2.1 q hq), fun q hq => ?_, h.2.2.2.2.1.moved hW hk, h.2.2.2.2.2.moved hW hk⟩
  · have h1 := h.2.1 w hw
    have h2 := (List.mem_filter.mp hw).2
    cases w <;> first | exact va_Nw.warmC hW h1 | exact va_Nw.warmD hW h1 | (simp [xnx] at h2)
  · obtain ⟨a, ha⟩ := h.2.2.2.1 q hq
    exact ⟨a, ha.warm hW⟩
def xE (V : xV) (U : State) : Prop := va_K V.2.1 vwCl (xTy V) U ∧ (∀ w ∈ xNN, va_Nw w U) ∧ va_AO "CursorBase$Operand" U ∧ va_AO "CursorBase$Condition" U ∧ xF V U
theorem xE.moved {V : xV} {s U : State} (hW : s.WarmedH U.vm) (hk : ∀ q, q < s.heap.size → ¬ xA V q → U.heap[q]? = s.heap[q]?) (h : xE V s) : xE V U := by
  refine ⟨va_K.moved hW.alike h.1, fun w hw => ?_, va_AO.moved hW.alike h.2.2.1, va_AO.moved hW.alike h.2.2.2.1, h.2.2.2.2.moved hW hk⟩
  have h1 := h.2.1 w hw
  have h2 := (List.mem_filter.mp hw).2
  cases w <;> first | exact va_Nw.warmM hW h1 | exact va_Nw.warmF hW h1 | (simp [xnw] at h2)
theorem xRep.pos {V : xV} {h : xH} {H : Heap} {a : Nat} {e : va_E} (hr : xRep V h H) (ha : h a = some e) : ∃ (L : List Nat) (f : Nat → va_E) (k : Nat), (∀ q e, h q = some e → q ∈ L ∧ f q = e) ∧ va_P V.2.1 vwCl (va_pl L f) H ∧ va_D (xA V) (va_pl L f) ∧ a ∈ L ∧ f a = e ∧ (va_pl L f)[k]? = some (a, e) := by
  obtain ⟨L, f, h1, h2, h3⟩ := hr
  obtain ⟨h4, h5⟩ := h1 a e ha
  obtain ⟨k, hk⟩ := va_pl_get (X := []) (f := f) h4
  exact ⟨L, f, k, h1, h2, h3, h4, h5, by rw [← h5]; exact hk⟩
theorem xRep.set {V : xV} {h : xH} {H1 : Heap} {L : List Nat} {f : Nat → va_E} {a k : Nat} {e e' : va_E} (hL : ∀ q e, h q = some e → q ∈ L ∧ f q = e) (haL : a ∈ L) (hf : f a = e) (hk : (va_pl L f)[k]? = some (a, e)) (hD0 : va_D (xA V) (va_pl L f))
    (hP : va_P V.2.1 vwCl ((va_pl L f).set k (a, e')) H1) (hD : va_D (xA V) ((va_pl L f).set k (a, e'))) : xRep V (va_up h a (some e')) H1 := by
  have hs : (va_pl L f).set k (a, e') = va_pl L (va_up f a e') := va_pl_set (X := []) hD0 haL (by rw [hf]; exact hk)
  rw [hs] at hP hD
  refine ⟨L, va_up f a e', fun q e9 hq => ?_, hP, hD⟩
  by_cases hqa : q = a
  · subst hqa
    rw [va_up_self] at hq ⊢
    exact ⟨haL, Option.some.inj hq⟩
  · rw [va_up_ne _ _ hqa] at hq ⊢
    exact hL q e9 hq
theorem xRep.push {V : xV} {h : xH} {H1 : Heap} {L : List Nat} {f : Nat → va_E} {q : Nat} {e : va_E} (hL : ∀ q e, h q = some e → q ∈ L ∧ f q = e)
    (hP : va_P V.2.1 vwCl (va_pl L f ++ [(q, e)]) H1) (hD : va_D (xA V) (va_pl L f ++ [(q, e)])) : h q = none ∧ xRep V (va_up h q (some e)) H1 := by
  have hf : q ∉ L := va_pl_fresh2 (X := []) hD
  rw [va_pl_push hf] at hP hD
  refine ⟨?_, L ++ [q], va_up f q e, fun r e9 hr => ?_, hP, hD⟩
  · cases hh : h q with
    | none => rfl
    | some e9 => exact absurd (hL q e9 hh).1 hf
  · by_cases hqa : r = q
    · subst hqa
      rw [va_up_self] at hr ⊢
      exact ⟨by simp, Option.some.inj hr⟩
    · rw [va_up_ne _ _ hqa] at hr ⊢
      have := hL r e9 hr
      exact ⟨by simp [this.1], this.2⟩
theorem xRep.less {V : xV} {h h' : xH} {H : Heap} (hr : xRep V h H) (hh : ∀ q e, h' q = some e → h q = some e) : xRep V h' H := by
  obtain ⟨L, f, h1, h2, h3⟩ := hr
  exact ⟨L, f, fun q e hq => h1 q e (hh q e hq), h2, h3⟩
/-- a local's value -/
def xg : List (Nat × Value) → Nat → Option Value
  | [], _ => none
  | (j, v) :: t, i => bif Nat.beq j i then some v else xg t i
theorem xUp_at {h h' : xH} {a : Nat} {e : va_E} (u : h' = va_up h a (some e)) : h' a = some e := by rw [u]; exact va_up_self _ _ _
theorem xUp_ne {h h' : xH} {a b : Nat} {e : va_E} {x : Option va_E} (u : h' = va_up h a (some e)) (hb : h b = x) (hne : b ≠ a) : h' b = x := by rw [u, va_up_ne _ _ hne]; exact hb
theorem xUp_new {h h' : xH} {a b : Nat} {e eb : va_E} (u : h' = va_up h a (some e)) (ha : h a = none) (hb : h b = some eb) : h' b = some eb := xUp_ne u hb (fun e9 => by rw [e9, ha] at hb; cases hb)
theorem x_ne {h : xH} {a b : Nat} {ea eb : va_E} (hb : h b = some eb) (ha : h a = some ea) (hd : ¬ ea = eb) : b ≠ a := fun e9 => hd (by rw [e9, ha] at hb; exact Option.some.inj hb)
theorem x_nn {h : xH} {a b : Nat} {eb : va_E} (hb : h b = some eb) (ha : h a = none) : b ≠ a := fun e9 => by rw [e9, ha] at hb; cases hb
theorem xg_at {ls : Array Slot} {nL i : Nat} {v : Value} : ∀ {lv : List (Nat × Value)}, lv_has ls nL lv → xg lv i = some v → ls[i]? = some (.val v) := by
  intro lv hl hg
  have hm : ∀ lv : List (Nat × Value), xg lv i = some v → (i, v) ∈ lv := by
    intro lv
    induction lv with
    | nil => intro h; cases h
    | cons q t ih =>
      obtain ⟨j, u⟩ := q
      intro h
      cases hb : Nat.beq j i with
      | true =>
        simp only [xg, hb, cond_true] at h
        rw [Nat.eq_of_beq_eq_true hb, Option.some.inj h]
        exact List.mem_cons_self
      | false =>
        simp only [xg, hb, cond_false] at h
        exact List.mem_cons_of_mem _ (ih h)
  exact hl.2.2 (i, v) (hm lv hg)
abbrev xK : Type := Nat → Nat → xH → Nat → List (Nat × Value) → List Value → Prop
def xX (V : xV) (pu : Bool) (p : Program) (e : Env) (R : Room) (s : State) (m : MethodId) (args : Array Value) (below : List Frame) (meth : Method) (c : Code) (nL : Nat) (Q : State → Prop) : xK := fun mc ms h pc lv st =>
  ∀ (H : Heap) (locs : List Loc) (cells slots : Nat) (ls : Array Slot), xRep V h H → va_S (xA V) s.heap H locs → (pu = true → H = s.heap ∧ locs = []) → cells + mc ≤ R.cells → slots + ms ≤ R.slots → lv_has ls nL lv → W p V.1 e R s m args below meth c H locs cells slots Q (F0 m pc ls st)
def xFix (V : xV) (p : Program) (R : Room) (s : State) (m : MethodId) (args : Array Value) (c : Code) (cc : ByteArray) (own : String) (nL d : Nat) : Prop :=
  p.tables.exec = Jvm.exec ∧ c.code = cc ∧ c.maxLocals = nL ∧ s.vm.findClass own = some m.cls ∧ (∀ w ∈ xT, w.before args s = true) ∧ xE V s ∧ V.2.2.2 ≤ s.heap.size ∧ d ≤ R.frames ∧ 30 * d ≤ R.locals
/-- which value a return instruction at pc answers -/
def xRetI (cc : ByteArray) (ret : Option FieldType) (pc : Nat) (st : List Value) (v : Option Value) : Prop :=
  (decode cc pc = .ok (.return_, 1) ∧ ret = none ∧ st = [] ∧ v = none) ∨
  (decode cc pc = .ok (.ireturn, 1) ∧ ∃ (ty : FieldType) (x : Int32), ret = some ty ∧ narrow ty (.int x) = .int x ∧ st = [.int x] ∧ v = some (.int x)) ∨
  (decode cc pc = .ok (.lreturn, 1) ∧ ∃ x : Int64, ret = some .long ∧ st = [.long x] ∧ v = some (.long x)) ∨
  (decode cc pc = .ok (.areturn, 1) ∧ ∃ (n : String) (u : Value), ret = some (.object n) ∧ (u = .null ∨ ∃ a, u = .ref a) ∧ st = [u] ∧ v = some u)
abbrev xS : Type := Option (Nat × Nat × (Nat → Int32))
def xCtx (V : xV) (K : xK) (cc : ByteArray) (own : String) (nL d : Nat) (pu ini : Bool) (ret : Option FieldType) (sc : xS) (post : Option Value → xH → Prop) : Prop :=
  (∃ (p : Program) (e : Env) (R : Room) (s : State) (m : MethodId) (args : Array Value) (below : List Frame) (meth : Method) (c : Code) (Q : State → Prop), xFix V p R s m args c cc own nL d ∧ (ini = true → meth.name = "<init>") ∧
    (∀ (b L : Nat) (xs : Nat → Int32), sc = some (b, L, xs) → va_X b L xs s s.heap ∧ b < V.2.2.2) ∧ K = xX V pu p e R s m args below meth c nL Q) ∧
  ∀ (mc ms : Nat) (h : xH) (pc : Nat) (lv : List (Nat × Value)) (st : List Value) (v : Option Value), xRetI cc ret pc st v → post v h → K mc ms h pc lv st
section XR
variable {V : xV} {K : xK} {cc : ByteArray} {own : String} {nL d : Nat} {pu ini : Bool} {ret : Option FieldType} {sc : xS} {post : Option Value → xH → Prop} {mc ms pc : Nat} {h : xH} {lv : List (Nat × Value)} {st rest : List Value}
theorem x_ret {v : Option Value} (C : xCtx V K cc own nL d pu ini ret sc post) (hr : xRetI cc ret pc st v) (hp : post v h) : K mc ms h pc lv st := C.2 mc ms h pc lv st v hr hp
theorem x_vret (C : xCtx V K cc own nL d pu ini none sc post) (hd : decode cc pc = .ok (.return_, 1)) (hp : post none h) : K mc ms h pc lv [] := x_ret C (Or.inl ⟨hd, rfl, rfl, rfl⟩) hp
theorem x_iret {x : Int32} (C : xCtx V K cc own nL d pu ini (some .int) sc post) (hd : decode cc pc = .ok (.ireturn, 1)) (hp : post (some (.int x)) h) : K mc ms h pc lv [.int x] := x_ret C (Or.inr (Or.inl ⟨hd, .int, x, rfl, rfl, rfl, rfl⟩)) hp
theorem x_zret {x : Int32} (C : xCtx V K cc own nL d pu ini (some .boolean) sc post) (hd : decode cc pc = .ok (.ireturn, 1)) (hx : narrow .boolean (.int x) = .int x) (hp : post (some (.int x)) h) : K mc ms h pc lv [.int x] := x_ret C (Or.inr (Or.inl ⟨hd, .boolean, x, rfl, hx, rfl, rfl⟩)) hp
theorem x_lret {x : Int64} (C : xCtx V K cc own nL d pu ini (some .long) sc post) (hd : decode cc pc = .ok (.lreturn, 1)) (hp : post (some (.long x)) h) : K mc ms h pc lv [.long x] := x_ret C (Or.inr (Or.inr (Or.inl ⟨hd, x, rfl, rfl, rfl⟩))) hp
theorem x_aret {n : String} {a : Nat} (C : xCtx V K cc own nL d pu ini (some (.object n)) sc post) (hd : decode cc pc = .ok (.areturn, 1)) (hp : post (some (.ref a)) h) : K mc ms h pc lv [.ref a] := x_ret C (Or.inr (Or.inr (Or.inr ⟨hd, n, .ref a, rfl, Or.inr ⟨a, rfl⟩, rfl, rfl⟩))) hp
theorem x_aretN {n : String} (C : xCtx V K cc own nL d pu ini (some (.object n)) sc post) (hd : decode cc pc = .ok (.areturn, 1)) (hp : post (some .null) h) : K mc ms h pc lv [.null] := x_ret C (Or.inr (Or.inr (Or.inr ⟨hd, n, .null, rfl, Or.inl rfl, rfl, rfl⟩))) hp
theorem x_iconst {n : Int} {v : Int32} (C : xCtx V K cc own nL d pu ini ret sc post) (hd : decode cc pc = .ok (.iconst n, 1)) (hv : Int32.ofInt n = v) (k : K mc ms h (pc + 1) lv (.int v :: st)) : K mc ms h pc lv st := by
  obtain ⟨⟨p, e, R, s, m, args, below, meth, c, Q, ⟨hx, hb, hml, hown, hts, hE, hz, hdF, hdL⟩, hin, hsc, rfl⟩, -⟩ := C
  intro H locs cells slots ls hR hS hG hmc hms hl
  exact lv_iconst hx hb hd hv (k H locs cells slots ls hR hS hG hmc hms hl)
theorem x_bipush {n : Int} {v : Int32} (C : xCtx V K cc own nL d pu ini ret sc post) (hd : decode cc pc = .ok (.bipush n, 2)) (hv : (Int8.ofInt n).toInt32 = v) (k : K mc ms h (pc + 2) lv (.int v :: st)) : K mc ms h pc lv st := by
  obtain ⟨⟨p, e, R, s, m, args, below, meth, c, Q, ⟨hx, hb, hml, hown, hts, hE, hz, hdF, hdL⟩, hin, hsc, rfl⟩, -⟩ := C
  intro H locs cells slots ls hR hS hG hmc hms hl
  exact lv_bipush hx hb hd hv (k H locs cells slots ls hR hS hG hmc hms hl)
theorem x_sipush {n : Int} {v : Int32} (C : xCtx V K cc own nL d pu ini ret sc post) (hd : decode cc pc = .ok (.sipush n, 3)) (hv : (Int16.ofInt n).toInt32 = v) (k : K mc ms h (pc + 3) lv (.int v :: st)) : K mc ms h pc lv st := by
  obtain ⟨⟨p, e, R, s, m, args, below, meth, c, Q, ⟨hx, hb, hml, hown, hts, hE, hz, hdF, hdL⟩, hin, hsc, rfl⟩, -⟩ := C
  intro H locs cells slots ls hR hS hG hmc hms hl
  exact lv_sipush hx hb hd hv (k H locs cells slots ls hR hS hG hmc hms hl)
theorem x_ldc {n : Nat} {v : Int32} (C : xCtx V K cc own nL d pu ini ret sc post) (hw : Cond.constant own n v ∈ xT) (hd : decode cc pc = .ok (.ldc n, 2)) (k : K mc ms h (pc + 2) lv (.int v :: st)) : K mc ms h pc lv st := by
  obtain ⟨⟨p, e, R, s, m, args, below, meth, c, Q, ⟨hx, hb, hml, hown, hts, hE, hz, hdF, hdL⟩, hin, hsc, rfl⟩, -⟩ := C
  intro H locs cells slots ls hR hS hG hmc hms hl
  exact lv_ldc hx hb hown (hts _ hw) hd (k H locs cells slots ls hR hS hG hmc hms hl)
theorem x_lconst {n : Fin 2} {v : Int64} (C : xCtx V K cc own nL d pu ini ret sc post) (hd : decode cc pc = .ok (.lconst n, 1)) (hv : Int64.ofNat (n : Nat) = v) (k : K mc ms h (pc + 1) lv (.long v :: st)) : K mc ms h pc lv st := by
  obtain ⟨⟨p, e, R, s, m, args, below, meth, c, Q, ⟨hx, hb, hml, hown, hts, hE, hz, hdF, hdL⟩, hin, hsc, rfl⟩, -⟩ := C
  intro H locs cells slots ls hR hS hG hmc hms hl
  exact lv_lconst hx hb hd hv (k H locs cells slots ls hR hS hG hmc hms hl)
theorem x_ldc2 {n : Nat} {v : Int64} (C : xCtx V K cc own nL d pu ini ret sc post) (hw : Cond.constantLong own n v ∈ xT) (hd : decode cc pc = .ok (.ldc2_w n, 3)) (k : K mc ms h (pc + 3) lv (.long v :: st)) : K mc ms h pc lv st := by
  obtain ⟨⟨p, e, R, s, m, args, below, meth, c, Q, ⟨hx, hb, hml, hown, hts, hE, hz, hdF, hdL⟩, hin, hsc, rfl⟩, -⟩ := C
  intro H locs cells slots ls hR hS hG hmc hms hl
  exact lv_ldc2 hx hb hown (hts _ hw) hd (k H locs cells slots ls hR hS hG hmc hms hl)
theorem x_null  (C : xCtx V K cc own nL d pu ini ret sc post) (hd : decode cc pc = .ok (.aconst_null, 1)) (k : K mc ms h (pc + 1) lv (.null :: st)) : K mc ms h pc lv st := by
  obtain ⟨⟨p, e, R, s, m, args, below, meth, c, Q, ⟨hx, hb, hml, hown, hts, hE, hz, hdF, hdL⟩, hin, hsc, rfl⟩, -⟩ := C
  intro H locs cells slots ls hR hS hG hmc hms hl
  exact lv_null hx hb hd (k H locs cells slots ls hR hS hG hmc hms hl)
theorem x_iload_n {k0 : Fin 4} {i : Nat} {x : Int32} (C : xCtx V K cc own nL d pu ini ret sc post) (hd : decode cc pc = .ok (.iload_n k0, 1)) (hi : (k0 : Nat) = i) (hg : xg lv i = some (.int x)) (k : K mc ms h (pc + 1) lv (.int x :: st)) : K mc ms h pc lv st := by
  obtain ⟨⟨p, e, R, s, m, args, below, meth, c, Q, ⟨hx, hb, hml, hown, hts, hE, hz, hdF, hdL⟩, hin, hsc, rfl⟩, -⟩ := C
  intro H locs cells slots ls hR hS hG hmc hms hl
  exact lv_iload_n hx hb hd hi (xg_at hl hg) (k H locs cells slots ls hR hS hG hmc hms hl)
theorem x_iload {i : Nat} {x : Int32} (C : xCtx V K cc own nL d pu ini ret sc post) (hd : decode cc pc = .ok (.iload i, 2)) (hg : xg lv i = some (.int x)) (k : K mc ms h (pc + 2) lv (.int x :: st)) : K mc ms h pc lv st := by
  obtain ⟨⟨p, e, R, s, m, args, below, meth, c, Q, ⟨hx, hb, hml, hown, hts, hE, hz, hdF, hdL⟩, hin, hsc, rfl⟩, -⟩ := C
  intro H locs cells slots ls hR hS hG hmc hms hl
  exact lv_iload hx hb hd (xg_at hl hg) (k H locs cells slots ls hR hS hG hmc hms hl)
theorem x_lload_n {k0 : Fin 4} {i : Nat} {x : Int64} (C : xCtx V K cc own nL d pu ini ret sc post) (hd : decode cc pc = .ok (.lload_n k0, 1)) (hi : (k0 : Nat) = i) (hg : xg lv i = some (.long x)) (k : K mc ms h (pc + 1) lv (.long x :: st)) : K mc ms h pc lv st := by
  obtain ⟨⟨p, e, R, s, m, args, below, meth, c, Q, ⟨hx, hb, hml, hown, hts, hE, hz, hdF, hdL⟩, hin, hsc, rfl⟩, -⟩ := C
  intro H locs cells slots ls hR hS hG hmc hms hl
  exact lv_lload_n hx hb hd hi (xg_at hl hg) (k H locs cells slots ls hR hS hG hmc hms hl)
theorem x_lload {i : Nat} {x : Int64} (C : xCtx V K cc own nL d pu ini ret sc post) (hd : decode cc pc = .ok (.lload i, 2)) (hg : xg lv i = some (.long x)) (k : K mc ms h (pc + 2) lv (.long x :: st)) : K mc ms h pc lv st := by
  obtain ⟨⟨p, e, R, s, m, args, below, meth, c, Q, ⟨hx, hb, hml, hown, hts, hE, hz, hdF, hdL⟩, hin, hsc, rfl⟩, -⟩ := C
  intro H locs cells slots ls hR hS hG hmc hms hl
  exact lv_lload hx hb hd (xg_at hl hg) (k H locs cells slots ls hR hS hG hmc hms hl)
theorem x_aload_n {k0 : Fin 4} {i : Nat} {x : Nat} (C : xCtx V K cc own nL d pu ini ret sc post) (hd : decode cc pc = .ok (.aload_n k0, 1)) (hi : (k0 : Nat) = i) (hg : xg lv i = some (.ref x)) (k : K mc ms h (pc + 1) lv (.ref x :: st)) : K mc ms h pc lv st := by
  obtain ⟨⟨p, e, R, s, m, args, below, meth, c, Q, ⟨hx, hb, hml, hown, hts, hE, hz, hdF, hdL⟩, hin, hsc, rfl⟩, -⟩ := C
  intro H locs cells slots ls hR hS hG hmc hms hl
  exact lv_aload_n hx hb hd hi (xg_at hl hg) (k H locs cells slots ls hR hS hG hmc hms hl)
theorem x_aload {i : Nat} {x : Nat} (C : xCtx V K cc own nL d pu ini ret sc post) (hd : decode cc pc = .ok (.aload i, 2)) (hg : xg lv i = some (.ref x)) (k : K mc ms h (pc + 2) lv (.ref x :: st)) : K mc ms h pc lv st := by
  obtain ⟨⟨p, e, R, s, m, args, below, meth, c, Q, ⟨hx, hb, hml, hown, hts, hE, hz, hdF, hdL⟩, hin, hsc, rfl⟩, -⟩ := C
  intro H locs cells slots ls hR hS hG hmc hms hl
  exact lv_aload hx hb hd (xg_at hl hg) (k H locs cells slots ls hR hS hG hmc hms hl)
theorem x_aload_nN {k0 : Fin 4} {i : Nat} (C : xCtx V K cc own nL d pu ini ret sc post) (hd : decode cc pc = .ok (.aload_n k0, 1)) (hi : (k0 : Nat) = i) (hg : xg lv i = some .null) (k : K mc ms h (pc + 1) lv (.null :: st)) : K mc ms h pc lv st := by
  obtain ⟨⟨p, e, R, s, m, args, below, meth, c, Q, ⟨hx, hb, hml, hown, hts, hE, hz, hdF, hdL⟩, hin, hsc, rfl⟩, -⟩ := C
  intro H locs cells slots ls hR hS hG hmc hms hl
  exact lv_aload_nN hx hb hd hi (xg_at hl hg) (k H locs cells slots ls hR hS hG hmc hms hl)
theorem x_aloadN {i : Nat} (C : xCtx V K cc own nL d pu ini ret sc post) (hd : decode cc pc = .ok (.aload i, 2)) (hg : xg lv i = some .null) (k : K mc ms h (pc + 2) lv (.null :: st)) : K mc ms h pc lv st := by
  obtain ⟨⟨p, e, R, s, m, args, below, meth, c, Q, ⟨hx, hb, hml, hown, hts, hE, hz, hdF, hdL⟩, hin, hsc, rfl⟩, -⟩ := C
  intro H locs cells slots ls hR hS hG hmc hms hl
  exact lv_aloadN hx hb hd (xg_at hl hg) (k H locs cells slots ls hR hS hG hmc hms hl)
theorem x_istore_n {k0 : Fin 4} {i : Nat} {x : Int32} {lv' : List (Nat × Value)} (C : xCtx V K cc own nL d pu ini ret sc post) (hd : decode cc pc = .ok (.istore_n k0, 1)) (hi : (k0 : Nat) = i) (hn : i < nL) (hlv : (i, Value.int x) :: lv.filter (fun q => !(q.1 == i) && !(q.1 + 1 == i && q.2.category == 2)) = lv') (k : K mc ms h (pc + 1) lv' rest) : K mc ms h pc lv (Value.int x :: rest) := by
  obtain ⟨⟨p, e, R, s, m, args, below, meth, c, Q, ⟨hx, hb, hml, hown, hts, hE, hz, hdF, hdL⟩, hin, hsc, rfl⟩, -⟩ := C
  intro H locs cells slots ls hR hS hG hmc hms hl
  exact lv_istore_n hx hb hd hi hl hn hlv (fun ls' hl' => k H locs cells slots ls' hR hS hG hmc hms hl')
theorem x_istore {i : Nat} {x : Int32} {lv' : List (Nat × Value)} (C : xCtx V K cc own nL d pu ini ret sc post) (hd : decode cc pc = .ok (.istore i, 2)) (hn : i < nL) (hlv : (i, Value.int x) :: lv.filter (fun q => !(q.1 == i) && !(q.1 + 1 == i && q.2.category == 2)) = lv') (k : K mc ms h (pc + 2) lv' rest) : K mc ms h pc lv (Value.int x :: rest) := by
  obtain ⟨⟨p, e, R, s, m, args, below, meth, c, Q, ⟨hx, hb, hml, hown, hts, hE, hz, hdF, hdL⟩, hin, hsc, rfl⟩, -⟩ := C
  intro H locs cells slots ls hR hS hG hmc hms hl
  exact lv_istore hx hb hd hl hn hlv (fun ls' hl' => k H locs cells slots ls' hR hS hG hmc hms hl')
theorem x_astore_n {k0 : Fin 4} {i : Nat} {x : Nat} {lv' : List (Nat × Value)} (C : xCtx V K cc own nL d pu ini ret sc post) (hd : decode cc pc = .ok (.astore_n k0, 1)) (hi : (k0 : Nat) = i) (hn : i < nL) (hlv : (i, Value.ref x) :: lv.filter (fun q => !(q.1 == i) && !(q.1 + 1 == i && q.2.category == 2)) = lv') (k : K mc ms h (pc + 1) lv' rest) : K mc ms h pc lv (Value.ref x :: rest) := by
  obtain ⟨⟨p, e, R, s, m, args, below, meth, c, Q, ⟨hx, hb, hml, hown, hts, hE, hz, hdF, hdL⟩, hin, hsc, rfl⟩, -⟩ := C
  intro H locs cells slots ls hR hS hG hmc hms hl
  exact lv_astore_n hx hb hd hi hl hn hlv (fun ls' hl' => k H locs cells slots ls' hR hS hG hmc hms hl')
theorem x_astore {i : Nat} {x : Nat} {lv' : List (Nat × Value)} (C : xCtx V K cc own nL d pu ini ret sc post) (hd : decode cc pc = .ok (.astore i, 2)) (hn : i < nL) (hlv : (i, Value.ref x) :: lv.filter (fun q => !(q.1 == i) && !(q.1 + 1 == i && q.2.category == 2)) = lv') (k : K mc ms h (pc + 2) lv' rest) : K mc ms h pc lv (Value.ref x :: rest) := by
  obtain ⟨⟨p, e, R, s, m, args, below, meth, c, Q, ⟨hx, hb, hml, hown, hts, hE, hz, hdF, hdL⟩, hin, hsc, rfl⟩, -⟩ := C
  intro H locs cells slots ls hR hS hG hmc hms hl
  exact lv_astore hx hb hd hl hn hlv (fun ls' hl' => k H locs cells slots ls' hR hS hG hmc hms hl')
theorem x_astore_nN {k0 : Fin 4} {i : Nat} {lv' : List (Nat × Value)} (C : xCtx V K cc own nL d pu ini ret sc post) (hd : decode cc pc = .ok (.astore_n k0, 1)) (hi : (k0 : Nat) = i) (hn : i < nL) (hlv : (i, Value.null) :: lv.filter (fun q => !(q.1 == i) && !(q.1 + 1 == i && q.2.category == 2)) = lv') (k : K mc ms h (pc + 1) lv' rest) : K mc ms h pc lv (Value.null :: rest) := by
  obtain ⟨⟨p, e, R, s, m, args, below, meth, c, Q, ⟨hx, hb, hml, hown, hts, hE, hz, hdF, hdL⟩, hin, hsc, rfl⟩, -⟩ := C
  intro H locs cells slots ls hR hS hG hmc hms hl
  exact lv_astore_nN hx hb hd hi hl hn hlv (fun ls' hl' => k H locs cells slots ls' hR hS hG hmc hms hl')
theorem x_astoreN {i : Nat} {lv' : List (Nat × Value)} (C : xCtx V K cc own nL d pu ini ret sc post) (hd : decode cc pc = .ok (.astore i, 2)) (hn : i < nL) (hlv : (i, Value.null) :: lv.filter (fun q => !(q.1 == i) && !(q.1 + 1 == i && q.2.category == 2)) = lv') (k : K mc ms h (pc + 2) lv' rest) : K mc ms h pc lv (Value.null :: rest) := by
  obtain ⟨⟨p, e, R, s, m, args, below, meth, c, Q, ⟨hx, hb, hml, hown, hts, hE, hz, hdF, hdL⟩, hin, hsc, rfl⟩, -⟩ := C
  intro H locs cells slots ls hR hS hG hmc hms hl
  exact lv_astoreN hx hb hd hl hn hlv (fun ls' hl' => k H locs cells slots ls' hR hS hG hmc hms hl')
theorem x_lstore_n {k0 : Fin 4} {i : Nat} {x : Int64} {lv' : List (Nat × Value)} (C : xCtx V K cc own nL d pu ini ret sc post) (hd : decode cc pc = .ok (.lstore_n k0, 1)) (hi : (k0 : Nat) = i) (hn : i + 1 < nL) (hlv : (i, Value.long x) :: lv.filter (fun q => !(q.1 == i) && (!(q.1 == i + 1) && !(q.1 + 1 == i && q.2.category == 2))) = lv') (k : K mc ms h (pc + 1) lv' rest) : K mc ms h pc lv (Value.long x :: rest) := by
  obtain ⟨⟨p, e, R, s, m, args, below, meth, c, Q, ⟨hx, hb, hml, hown, hts, hE, hz, hdF, hdL⟩, hin, hsc, rfl⟩, -⟩ := C
  intro H locs cells slots ls hR hS hG hmc hms hl
  exact lv_lstore_n hx hb hd hi hl hn hlv (fun ls' hl' => k H locs cells slots ls' hR hS hG hmc hms hl')
theorem x_lstore {i : Nat} {x : Int64} {lv' : List (Nat × Value)} (C : xCtx V K cc own nL d pu ini ret sc post) (hd : decode cc pc = .ok (.lstore i, 2)) (hn : i + 1 < nL) (hlv : (i, Value.long x) :: lv.filter (fun q => !(q.1 == i) && (!(q.1 == i + 1) && !(q.1 + 1 == i && q.2.category == 2))) = lv') (k : K mc ms h (pc + 2) lv' rest) : K mc ms h pc lv (Value.long x :: rest) := by
  obtain ⟨⟨p, e, R, s, m, args, below, meth, c, Q, ⟨hx, hb, hml, hown, hts, hE, hz, hdF, hdL⟩, hin, hsc, rfl⟩, -⟩ := C
  intro H locs cells slots ls hR hS hG hmc hms hl
  exact lv_lstore hx hb hd hl hn hlv (fun ls' hl' => k H locs cells slots ls' hR hS hG hmc hms hl')
theorem x_iinc {i k0 : Nat} {n : Int} {x v : Int32} {lv' : List (Nat × Value)} (C : xCtx V K cc own nL d pu ini ret sc post) (hd : decode cc pc = .ok (.iinc i n, 3)) (hk : lv[k0]? = some (i, .int x)) (hv : x + Int32.ofInt n = v) (hn : i < nL) (hlv : (i, Value.int v) :: lv.filter (fun q => !(q.1 == i) && !(q.1 + 1 == i && q.2.category == 2)) = lv') (k : K mc ms h (pc + 3) lv' st) : K mc ms h pc lv st := by
  obtain ⟨⟨p, e, R, s, m, args, below, meth, c, Q, ⟨hx, hb, hml, hown, hts, hE, hz, hdF, hdL⟩, hin, hsc, rfl⟩, -⟩ := C
  intro H locs cells slots ls hR hS hG hmc hms hl
  exact lv_iinc hx hb hd hl hk hv hn hlv (fun ls' hl' => k H locs cells slots ls' hR hS hG hmc hms hl')
theorem x_iadd {x y : Int32} (C : xCtx V K cc own nL d pu ini ret sc post) (hd : decode cc pc = .ok (.iadd, 1)) (k : K mc ms h (pc + 1) lv (.int (x + y) :: rest)) : K mc ms h pc lv (.int y :: .int x :: rest) := by
  obtain ⟨⟨p, e, R, s, m, args, below, meth, c, Q, ⟨hx, hb, hml, hown, hts, hE, hz, hdF, hdL⟩, hin, hsc, rfl⟩, -⟩ := C
  intro H locs cells slots ls hR hS hG hmc hms hl
  exact lv_iadd hx hb hd (k H locs cells slots ls hR hS hG hmc hms hl)
theorem x_isub {x y : Int32} (C : xCtx V K cc own nL d pu ini ret sc post) (hd : decode cc pc = .ok (.isub, 1)) (k : K mc ms h (pc + 1) lv (.int (x - y) :: rest)) : K mc ms h pc lv (.int y :: .int x :: rest) := by
  obtain ⟨⟨p, e, R, s, m, args, below, meth, c, Q, ⟨hx, hb, hml, hown, hts, hE, hz, hdF, hdL⟩, hin, hsc, rfl⟩, -⟩ := C
  intro H locs cells slots ls hR hS hG hmc hms hl
  exact lv_isub hx hb hd (k H locs cells slots ls hR hS hG hmc hms hl)
theorem x_imul {x y : Int32} (C : xCtx V K cc own nL d pu ini ret sc post) (hd : decode cc pc = .ok (.imul, 1)) (k : K mc ms h (pc + 1) lv (.int (x * y) :: rest)) : K mc ms h pc lv (.int y :: .int x :: rest) := by
  obtain ⟨⟨p, e, R, s, m, args, below, meth, c, Q, ⟨hx, hb, hml, hown, hts, hE, hz, hdF, hdL⟩, hin, hsc, rfl⟩, -⟩ := C
  intro H locs cells slots ls hR hS hG hmc hms hl
  exact lv_imul hx hb hd (k H locs cells slots ls hR hS hG hmc hms hl)
theorem x_iand {x y : Int32} (C : xCtx V K cc own nL d pu ini ret sc post) (hd : decode cc pc = .ok (.iand, 1)) (k : K mc ms h (pc + 1) lv (.int (x &&& y) :: rest)) : K mc ms h pc lv (.int y :: .int x :: rest) := by
  obtain ⟨⟨p, e, R, s, m, args, below, meth, c, Q, ⟨hx, hb, hml, hown, hts, hE, hz, hdF, hdL⟩, hin, hsc, rfl⟩, -⟩ := C
  intro H locs cells slots ls hR hS hG hmc hms hl
  exact lv_iand hx hb hd (k H locs cells slots ls hR hS hG hmc hms hl)
theorem x_ladd {x y : Int64} (C : xCtx V K cc own nL d pu ini ret sc post) (hd : decode cc pc = .ok (.ladd, 1)) (k : K mc ms h (pc + 1) lv (.long (x + y) :: rest)) : K mc ms h pc lv (.long y :: .long x :: rest) := by
  obtain ⟨⟨p, e, R, s, m, args, below, meth, c, Q, ⟨hx, hb, hml, hown, hts, hE, hz, hdF, hdL⟩, hin, hsc, rfl⟩, -⟩ := C
  intro H locs cells slots ls hR hS hG hmc hms hl
  exact lv_ladd hx hb hd (k H locs cells slots ls hR hS hG hmc hms hl)
theorem x_lsub {x y : Int64} (C : xCtx V K cc own nL d pu ini ret sc post) (hd : decode cc pc = .ok (.lsub, 1)) (k : K mc ms h (pc + 1) lv (.long (x - y) :: rest)) : K mc ms h pc lv (.long y :: .long x :: rest) := by
  obtain ⟨⟨p, e, R, s, m, args, below, meth, c, Q, ⟨hx, hb, hml, hown, hts, hE, hz, hdF, hdL⟩, hin, hsc, rfl⟩, -⟩ := C
  intro H locs cells slots ls hR hS hG hmc hms hl
  exact lv_lsub hx hb hd (k H locs cells slots ls hR hS hG hmc hms hl)
theorem x_i2l {x : Int32} (C : xCtx V K cc own nL d pu ini ret sc post) (hd : decode cc pc = .ok (.i2l, 1)) (k : K mc ms h (pc + 1) lv (.long x.toInt64 :: rest)) : K mc ms h pc lv (.int x :: rest) := by
  obtain ⟨⟨p, e, R, s, m, args, below, meth, c, Q, ⟨hx, hb, hml, hown, hts, hE, hz, hdF, hdL⟩, hin, hsc, rfl⟩, -⟩ := C
  intro H locs cells slots ls hR hS hG hmc hms hl
  exact lv_i2l hx hb hd rfl (k H locs cells slots ls hR hS hG hmc hms hl)
theorem x_lcmp {x y : Int64} (C : xCtx V K cc own nL d pu ini ret sc post) (hd : decode cc pc = .ok (.lcmp, 1)) (k : K mc ms h (pc + 1) lv (.int (lg_cmp x y) :: rest)) : K mc ms h pc lv (.long y :: .long x :: rest) := by
  obtain ⟨⟨p, e, R, s, m, args, below, meth, c, Q, ⟨hx, hb, hml, hown, hts, hE, hz, hdF, hdL⟩, hin, hsc, rfl⟩, -⟩ := C
  intro H locs cells slots ls hR hS hG hmc hms hl
  exact W.lcmp hx hb hd (k H locs cells slots ls hR hS hG hmc hms hl)
theorem x_dup {a : Value} (C : xCtx V K cc own nL d pu ini ret sc post) (hd : decode cc pc = .ok (.dup, 1)) (ha : a.category = 1) (k : K mc ms h (pc + 1) lv (a :: a :: rest)) : K mc ms h pc lv (a :: rest) := by
  obtain ⟨⟨p, e, R, s, m, args, below, meth, c, Q, ⟨hx, hb, hml, hown, hts, hE, hz, hdF, hdL⟩, hin, hsc, rfl⟩, -⟩ := C
  intro H locs cells slots ls hR hS hG hmc hms hl
  exact lv_dup hx hb hd ha (k H locs cells slots ls hR hS hG hmc hms hl)
theorem x_dup_x1 {a b : Value} (C : xCtx V K cc own nL d pu ini ret sc post) (hd : decode cc pc = .ok (.dup_x1, 1)) (ha : a.category = 1) (hb9 : b.category = 1) (k : K mc ms h (pc + 1) lv (a :: b :: a :: rest)) : K mc ms h pc lv (a :: b :: rest) := by
  obtain ⟨⟨p, e, R, s, m, args, below, meth, c, Q, ⟨hx, hb, hml, hown, hts, hE, hz, hdF, hdL⟩, hin, hsc, rfl⟩, -⟩ := C
  intro H locs cells slots ls hR hS hG hmc hms hl
  exact lv_dup_x1 hx hb hd ha hb9 (k H locs cells slots ls hR hS hG hmc hms hl)
theorem x_dup2 {a b : Value} (C : xCtx V K cc own nL d pu ini ret sc post) (hd : decode cc pc = .ok (.dup2, 1)) (ha : a.category = 1) (hb9 : b.category = 1) (k : K mc ms h (pc + 1) lv (a :: b :: a :: b :: rest)) : K mc ms h pc lv (a :: b :: rest) := by
  obtain ⟨⟨p, e, R, s, m, args, below, meth, c, Q, ⟨hx, hb, hml, hown, hts, hE, hz, hdF, hdL⟩, hin, hsc, rfl⟩, -⟩ := C
  intro H locs cells slots ls hR hS hG hmc hms hl
  exact lv_dup2_11 hx hb hd ha hb9 (k H locs cells slots ls hR hS hG hmc hms hl)
theorem x_pop {a : Value} (C : xCtx V K cc own nL d pu ini ret sc post) (hd : decode cc pc = .ok (.pop, 1)) (ha : a.category = 1) (k : K mc ms h (pc + 1) lv rest) : K mc ms h pc lv (a :: rest) := by
  obtain ⟨⟨p, e, R, s, m, args, below, meth, c, Q, ⟨hx, hb, hml, hown, hts, hE, hz, hdF, hdL⟩, hin, hsc, rfl⟩, -⟩ := C
  intro H locs cells slots ls hR hS hG hmc hms hl
  exact lv_pop hx hb hd ha (k H locs cells slots ls hR hS hG hmc hms hl)
theorem x_if_eq {x : Int32} {off : Int} {tgt : Nat} (C : xCtx V K cc own nL d pu ini ret sc post) (hd : decode cc pc = .ok (.ifCond .eq off, 3)) (ht : (pc : Int) + off = (tgt : Int)) (kt : x = 0 → K mc ms h tgt lv rest) (kf : ¬ x = 0 → K mc ms h (pc + 3) lv rest) : K mc ms h pc lv (.int x :: rest) := by
  obtain ⟨⟨p, e, R, s, m, args, below, meth, c, Q, ⟨hx, hb, hml, hown, hts, hE, hz, hdF, hdL⟩, hin, hsc, rfl⟩, -⟩ := C
  intro H locs cells slots ls hR hS hG hmc hms hl
  exact lv_if_eq hx hb hd ht (fun q => kt q H locs cells slots ls hR hS hG hmc hms hl) (fun q => kf q H locs cells slots ls hR hS hG hmc hms hl)
theorem x_icmp_eq {x y : Int32} {off : Int} {tgt : Nat} (C : xCtx V K cc own nL d pu ini ret sc post) (hd : decode cc pc = .ok (.if_icmp .eq off, 3)) (ht : (pc : Int) + off = (tgt : Int)) (kt : x = y → K mc ms h tgt lv rest) (kf : ¬ x = y → K mc ms h (pc + 3) lv rest) : K mc ms h pc lv (.int y :: .int x :: rest) := by
  obtain ⟨⟨p, e, R, s, m, args, below, meth, c, Q, ⟨hx, hb, hml, hown, hts, hE, hz, hdF, hdL⟩, hin, hsc, rfl⟩, -⟩ := C
  intro H locs cells slots ls hR hS hG hmc hms hl
  exact lv_icmp_eq hx hb hd ht (fun q => kt q H locs cells slots ls hR hS hG hmc hms hl) (fun q => kf q H locs cells slots ls hR hS hG hmc hms hl)
theorem x_if_ne {x : Int32} {off : Int} {tgt : Nat} (C : xCtx V K cc own nL d pu ini ret sc post) (hd : decode cc pc = .ok (.ifCond .ne off, 3)) (ht : (pc : Int) + off = (tgt : Int)) (kt : ¬ x = 0 → K mc ms h tgt lv rest) (kf : x = 0 → K mc ms h (pc + 3) lv rest) : K mc ms h pc lv (.int x :: rest) := by
  obtain ⟨⟨p, e, R, s, m, args, below, meth, c, Q, ⟨hx, hb, hml, hown, hts, hE, hz, hdF, hdL⟩, hin, hsc, rfl⟩, -⟩ := C
  intro H locs cells slots ls hR hS hG hmc hms hl
  exact lv_if_ne hx hb hd ht (fun q => kt q H locs cells slots ls hR hS hG hmc hms hl) (fun q => kf q H locs cells slots ls hR hS hG hmc hms hl)
theorem x_icmp_ne {x y : Int32} {off : Int} {tgt : Nat} (C : xCtx V K cc own nL d pu ini ret sc post) (hd : decode cc pc = .ok (.if_icmp .ne off, 3)) (ht : (pc : Int) + off = (tgt : Int)) (kt : ¬ x = y → K mc ms h tgt lv rest) (kf : x = y → K mc ms h (pc + 3) lv rest) : K mc ms h pc lv (.int y :: .int x :: rest) := by
  obtain ⟨⟨p, e, R, s, m, args, below, meth, c, Q, ⟨hx, hb, hml, hown, hts, hE, hz, hdF, hdL⟩, hin, hsc, rfl⟩, -⟩ := C
  intro H locs cells slots ls hR hS hG hmc hms hl
  exact lv_icmp_ne hx hb hd ht (fun q => kt q H locs cells slots ls hR hS hG hmc hms hl) (fun q => kf q H locs cells slots ls hR hS hG hmc hms hl)
theorem x_if_lt {x : Int32} {off : Int} {tgt : Nat} (C : xCtx V K cc own nL d pu ini ret sc post) (hd : decode cc pc = .ok (.ifCond .lt off, 3)) (ht : (pc : Int) + off = (tgt : Int)) (kt : x < 0 → K mc ms h tgt lv rest) (kf : ¬ x < 0 → K mc ms h (pc + 3) lv rest) : K mc ms h pc lv (.int x :: rest) := by
  obtain ⟨⟨p, e, R, s, m, args, below, meth, c, Q, ⟨hx, hb, hml, hown, hts, hE, hz, hdF, hdL⟩, hin, hsc, rfl⟩, -⟩ := C
  intro H locs cells slots ls hR hS hG hmc hms hl
  exact lv_if_lt hx hb hd ht (fun q => kt q H locs cells slots ls hR hS hG hmc hms hl) (fun q => kf q H locs cells slots ls hR hS hG hmc hms hl)
theorem x_icmp_lt {x y : Int32} {off : Int} {tgt : Nat} (C : xCtx V K cc own nL d pu ini ret sc post) (hd : decode cc pc = .ok (.if_icmp .lt off, 3)) (ht : (pc : Int) + off = (tgt : Int)) (kt : x < y → K mc ms h tgt lv rest) (kf : ¬ x < y → K mc ms h (pc + 3) lv rest) : K mc ms h pc lv (.int y :: .int x :: rest) := by
  obtain ⟨⟨p, e, R, s, m, args, below, meth, c, Q, ⟨hx, hb, hml, hown, hts, hE, hz, hdF, hdL⟩, hin, hsc, rfl⟩, -⟩ := C
  intro H locs cells slots ls hR hS hG hmc hms hl
  exact lv_icmp_lt hx hb hd ht (fun q => kt q H locs cells slots ls hR hS hG hmc hms hl) (fun q => kf q H locs cells slots ls hR hS hG hmc hms hl)
theorem x_if_ge {x : Int32} {off : Int} {tgt : Nat} (C : xCtx V K cc own nL d pu ini ret sc post) (hd : decode cc pc = .ok (.ifCond .ge off, 3)) (ht : (pc : Int) + off = (tgt : Int)) (kt : 0 ≤ x → K mc ms h tgt lv rest) (kf : ¬ 0 ≤ x → K mc ms h (pc + 3) lv rest) : K mc ms h pc lv (.int x :: rest) := by
  obtain ⟨⟨p, e, R, s, m, args, below, meth, c, Q, ⟨hx, hb, hml, hown, hts, hE, hz, hdF, hdL⟩, hin, hsc, rfl⟩, -⟩ := C
  intro H locs cells slots ls hR hS hG hmc hms hl
  exact lv_if_ge hx hb hd ht (fun q => kt q H locs cells slots ls hR hS hG hmc hms hl) (fun q => kf q H locs cells slots ls hR hS hG hmc hms hl)
theorem x_icmp_ge {x y : Int32} {off : Int} {tgt : Nat} (C : xCtx V K cc own nL d pu ini ret sc post) (hd : decode cc pc = .ok (.if_icmp .ge off, 3)) (ht : (pc : Int) + off = (tgt : Int)) (kt : y ≤ x → K mc ms h tgt lv rest) (kf : ¬ y ≤ x → K mc ms h (pc + 3) lv rest) : K mc ms h pc lv (.int y :: .int x :: rest) := by
  obtain ⟨⟨p, e, R, s, m, args, below, meth, c, Q, ⟨hx, hb, hml, hown, hts, hE, hz, hdF, hdL⟩, hin, hsc, rfl⟩, -⟩ := C
  intro H locs cells slots ls hR hS hG hmc hms hl
  exact lv_icmp_ge hx hb hd ht (fun q => kt q H locs cells slots ls hR hS hG hmc hms hl) (fun q => kf q H locs cells slots ls hR hS hG hmc hms hl)
theorem x_if_gt {x : Int32} {off : Int} {tgt : Nat} (C : xCtx V K cc own nL d pu ini ret sc post) (hd : decode cc pc = .ok (.ifCond .gt off, 3)) (ht : (pc : Int) + off = (tgt : Int)) (kt : 0 < x → K mc ms h tgt lv rest) (kf : ¬ 0 < x → K mc ms h (pc + 3) lv rest) : K mc ms h pc lv (.int x :: rest) := by
  obtain ⟨⟨p, e, R, s, m, args, below, meth, c, Q, ⟨hx, hb, hml, hown, hts, hE, hz, hdF, hdL⟩, hin, hsc, rfl⟩, -⟩ := C
  intro H locs cells slots ls hR hS hG hmc hms hl
  exact lv_if_gt hx hb hd ht (fun q => kt q H locs cells slots ls hR hS hG hmc hms hl) (fun q => kf q H locs cells slots ls hR hS hG hmc hms hl)
theorem x_icmp_gt {x y : Int32} {off : Int} {tgt : Nat} (C : xCtx V K cc own nL d pu ini ret sc post) (hd : decode cc pc = .ok (.if_icmp .gt off, 3)) (ht : (pc : Int) + off = (tgt : Int)) (kt : y < x → K mc ms h tgt lv rest) (kf : ¬ y < x → K mc ms h (pc + 3) lv rest) : K mc ms h pc lv (.int y :: .int x :: rest) := by
  obtain ⟨⟨p, e, R, s, m, args, below, meth, c, Q, ⟨hx, hb, hml, hown, hts, hE, hz, hdF, hdL⟩, hin, hsc, rfl⟩, -⟩ := C
  intro H locs cells slots ls hR hS hG hmc hms hl
  exact lv_icmp_gt hx hb hd ht (fun q => kt q H locs cells slots ls hR hS hG hmc hms hl) (fun q => kf q H locs cells slots ls hR hS hG hmc hms hl)
theorem x_if_le {x : Int32} {off : Int} {tgt : Nat} (C : xCtx V K cc own nL d pu ini ret sc post) (hd : decode cc pc = .ok (.ifCond .le off, 3)) (ht : (pc : Int) + off = (tgt : Int)) (kt : x ≤ 0 → K mc ms h tgt lv rest) (kf : ¬ x ≤ 0 → K mc ms h (pc + 3) lv rest) : K mc ms h pc lv (.int x :: rest) := by
  obtain ⟨⟨p, e, R, s, m, args, below, meth, c, Q, ⟨hx, hb, hml, hown, hts, hE, hz, hdF, hdL⟩, hin, hsc, rfl⟩, -⟩ := C
  intro H locs cells slots ls hR hS hG hmc hms hl
  exact lv_if_le hx hb hd ht (fun q => kt q H locs cells slots ls hR hS hG hmc hms hl) (fun q => kf q H locs cells slots ls hR hS hG hmc hms hl)
theorem x_icmp_le {x y : Int32} {off : Int} {tgt : Nat} (C : xCtx V K cc own nL d pu ini ret sc post) (hd : decode cc pc = .ok (.if_icmp .le off, 3)) (ht : (pc : Int) + off = (tgt : Int)) (kt : x ≤ y → K mc ms h tgt lv rest) (kf : ¬ x ≤ y → K mc ms h (pc + 3) lv rest) : K mc ms h pc lv (.int y :: .int x :: rest) := by
  obtain ⟨⟨p, e, R, s, m, args, below, meth, c, Q, ⟨hx, hb, hml, hown, hts, hE, hz, hdF, hdL⟩, hin, hsc, rfl⟩, -⟩ := C
  intro H locs cells slots ls hR hS hG hmc hms hl
  exact lv_icmp_le hx hb hd ht (fun q => kt q H locs cells slots ls hR hS hG hmc hms hl) (fun q => kf q H locs cells slots ls hR hS hG hmc hms hl)
theorem x_goto {off : Int} {tgt : Nat} (C : xCtx V K cc own nL d pu ini ret sc post) (hd : decode cc pc = .ok (.goto off, 3)) (ht : (pc : Int) + off = (tgt : Int)) (k : K mc ms h tgt lv st) : K mc ms h pc lv st := by
  obtain ⟨⟨p, e, R, s, m, args, below, meth, c, Q, ⟨hx, hb, hml, hown, hts, hE, hz, hdF, hdL⟩, hin, hsc, rfl⟩, -⟩ := C
  intro H locs cells slots ls hR hS hG hmc hms hl
  exact lv_goto hx hb hd ht (k H locs cells slots ls hR hS hG hmc hms hl)
theorem x_ifnull {x : Nat} {off : Int} (C : xCtx V K cc own nL d pu ini ret sc post) (hd : decode cc pc = .ok (.ifnull off, 3)) (k : K mc ms h (pc + 3) lv rest) : K mc ms h pc lv (.ref x :: rest) := by
  obtain ⟨⟨p, e, R, s, m, args, below, meth, c, Q, ⟨hx, hb, hml, hown, hts, hE, hz, hdF, hdL⟩, hin, hsc, rfl⟩, -⟩ := C
  intro H locs cells slots ls hR hS hG hmc hms hl
  exact lv_ifnull hx hb hd (k H locs cells slots ls hR hS hG hmc hms hl)
theorem x_ifnullN {off : Int} {tgt : Nat} (C : xCtx V K cc own nL d pu ini ret sc post) (hd : decode cc pc = .ok (.ifnull off, 3)) (ht : (pc : Int) + off = (tgt : Int)) (k : K mc ms h tgt lv rest) : K mc ms h pc lv (.null :: rest) := by
  obtain ⟨⟨p, e, R, s, m, args, below, meth, c, Q, ⟨hx, hb, hml, hown, hts, hE, hz, hdF, hdL⟩, hin, hsc, rfl⟩, -⟩ := C
  intro H locs cells slots ls hR hS hG hmc hms hl
  exact lv_ifnullN hx hb hd ht (k H locs cells slots ls hR hS hG hmc hms hl)
theorem x_ifnonnull {x : Nat} {off : Int} {tgt : Nat} (C : xCtx V K cc own nL d pu ini ret sc post) (hd : decode cc pc = .ok (.ifnonnull off, 3)) (ht : (pc : Int) + off = (tgt : Int)) (k : K mc ms h tgt lv rest) : K mc ms h pc lv (.ref x :: rest) := by
  obtain ⟨⟨p, e, R, s, m, args, below, meth, c, Q, ⟨hx, hb, hml, hown, hts, hE, hz, hdF, hdL⟩, hin, hsc, rfl⟩, -⟩ := C
  intro H locs cells slots ls hR hS hG hmc hms hl
  exact lv_ifnonnull hx hb hd ht (k H locs cells slots ls hR hS hG hmc hms hl)
theorem x_ifnonnullN {off : Int} (C : xCtx V K cc own nL d pu ini ret sc post) (hd : decode cc pc = .ok (.ifnonnull off, 3)) (k : K mc ms h (pc + 3) lv rest) : K mc ms h pc lv (.null :: rest) := by
  obtain ⟨⟨p, e, R, s, m, args, below, meth, c, Q, ⟨hx, hb, hml, hown, hts, hE, hz, hdF, hdL⟩, hin, hsc, rfl⟩, -⟩ := C
  intro H locs cells slots ls hR hS hG hmc hms hl
  exact lv_ifnonnullN hx hb hd (k H locs cells slots ls hR hS hG hmc hms hl)
theorem x_tabIn {dflt lo hi : Int} {offs : Array Int} {len : Nat} {x : Int32} {off : Int} {tgt : Nat} (C : xCtx V K cc own nL d pu ini ret sc post) (hd : decode cc pc = .ok (.tableswitch dflt lo hi offs, len)) (h1 : ¬ x.toInt < lo) (h2 : ¬ hi < x.toInt) (ho : offs[(x.toInt - lo).toNat]? = some off) (ht : (pc : Int) + off = (tgt : Int)) (k : K mc ms h tgt lv rest) : K mc ms h pc lv (.int x :: rest) := by
  obtain ⟨⟨p, e, R, s, m, args, below, meth, c, Q, ⟨hx, hb, hml, hown, hts, hE, hz, hdF, hdL⟩, hin, hsc, rfl⟩, -⟩ := C
  intro H locs cells slots ls hR hS hG hmc hms hl
  exact lv_tableIn hx hb hd h1 h2 ho ht (k H locs cells slots ls hR hS hG hmc hms hl)
theorem x_tabOut {dflt lo hi : Int} {offs : Array Int} {len : Nat} {x : Int32} {tgt : Nat} (C : xCtx V K cc own nL d pu ini ret sc post) (hd : decode cc pc = .ok (.tableswitch dflt lo hi offs, len)) (h1 : x.toInt < lo ∨ hi < x.toInt) (ht : (pc : Int) + dflt = (tgt : Int)) (k : K mc ms h tgt lv rest) : K mc ms h pc lv (.int x :: rest) := by
  obtain ⟨⟨p, e, R, s, m, args, below, meth, c, Q, ⟨hx, hb, hml, hown, hts, hE, hz, hdF, hdL⟩, hin, hsc, rfl⟩, -⟩ := C
  intro H locs cells slots ls hR hS hG hmc hms hl
  exact lv_tableOut hx hb hd h1 ht (k H locs cells slots ls hR hS hG hmc hms hl)
theorem x_look {dflt : Int} {ps : Array (Int × Int)} {len : Nat} {x : Int32} {off : Int} {tgt : Nat} (C : xCtx V K cc own nL d pu ini ret sc post) (hd : decode cc pc = .ok (.lookupswitch dflt ps, len)) (hp : (ps.toList.zip (ps.toList.drop 1)).all (fun (a, next) => a.1 < next.1) = true) (ho : Op.lookupswitch.offset ps.toList dflt x.toInt = off) (ht : (pc : Int) + off = (tgt : Int)) (k : K mc ms h tgt lv rest) : K mc ms h pc lv (.int x :: rest) := by
  obtain ⟨⟨p, e, R, s, m, args, below, meth, c, Q, ⟨hx, hb, hml, hown, hts, hE, hz, hdF, hdL⟩, hin, hsc, rfl⟩, -⟩ := C
  intro H locs cells slots ls hR hS hG hmc hms hl
  exact lv_lookup hx hb hd hp ho ht (k H locs cells slots ls hR hS hG hmc hms hl)
theorem x_mono {mc' ms' : Nat} (C : xCtx V K cc own nL d pu ini ret sc post) (h1 : mc ≤ mc') (h2 : ms ≤ ms') (k : K mc ms h pc lv st) : K mc' ms' h pc lv st := by
  obtain ⟨⟨p, e, R, s, m, args, below, meth, c, Q, ⟨hx, hb, hml, hown, hts, hE, hz, hdF, hdL⟩, hin, hsc, rfl⟩, -⟩ := C
  intro H locs cells slots ls hR hS hG hmc hms hl
  exact k H locs cells slots ls hR hS hG (by omega) (by omega) hl
theorem x_less {h' : xH} (C : xCtx V K cc own nL d pu ini ret sc post) (hh : ∀ q e, h' q = some e → h q = some e) (k : K mc ms h' pc lv st) : K mc ms h pc lv st := by
  obtain ⟨⟨p, e, R, s, m, args, below, meth, c, Q, ⟨hx, hb, hml, hown, hts, hE, hz, hdF, hdL⟩, hin, hsc, rfl⟩, -⟩ := C
  intro H locs cells slots ls hR hS hG hmc hms hl
  exact k H locs cells slots ls (hR.less hh) hS hG hmc hms hl
theorem x_lv {lv' : List (Nat × Value)} (ks : List Nat) (C : xCtx V K cc own nL d pu ini ret sc post) (hs : lv_pick lv ks = lv') (k : K mc ms h pc lv' st) : K mc ms h pc lv st := by
  obtain ⟨⟨p, e, R, s, m, args, below, meth, c, Q, ⟨hx, hb, hml, hown, hts, hE, hz, hdF, hdL⟩, hin, hsc, rfl⟩, -⟩ := C
  intro H locs cells slots ls hR hS hG hmc hms hl
  exact k H locs cells slots ls hR hS hG hmc hms (lv_sub hl ks hs)
theorem x_get {idx ci a k0 N : Nat} {Cn : String} {T : u_T} {ty : Nat → FieldType} {fs : List Value} {v : Value} (C : xCtx V K cc own nL d pu ini ret sc post) (kc : xCls ci Cn T N ty) (fl : xFl own idx Cn T N k0) (hd : decode cc pc = .ok (.getfield idx, 3)) (hq : h a = some (.inr (ci, fs))) (hv : fs[k0]? = some v) (k : K mc ms h (pc + 3) lv (v :: rest)) : K mc ms h pc lv (.ref a :: rest) := by
  obtain ⟨⟨p, e, R, s, m, args, below, meth, c, Q, ⟨hx, hb, hml, hown, hts, hE, hz, hdF, hdL⟩, hin, hsc, rfl⟩, -⟩ := C
  intro H locs cells slots ls hR hS hG hmc hms hl
  obtain ⟨L, f, j, hLf, hP, hD, haL, hfa, hj⟩ := hR.pos hq
  obtain ⟨hk0, hT1, hw | ⟨host, hw⟩⟩ := fl
  · exact va_get hx hb hts kc.2.1 hown hE.1 hP j hj kc.1 k0 hk0 (hts _ hw) (fun x9 h9 => by rw [hT1] at h9; exact h9) hv hd (k H locs cells slots ls hR hS hG hmc hms hl)
  · exact va_getN hx hb hts kc.2.1 hown hE.1 hP j hj kc.1 k0 hk0 (va_Nw.use rfl (hE.2.1 _ hw)) (fun x9 h9 => by rw [hT1] at h9; exact h9) hv hd (k H locs cells slots ls hR hS hG hmc hms hl)
theorem x_put {idx ci a k0 N : Nat} {Cn : String} {T : u_T} {ty : Nat → FieldType} {fs : List Value} {v : Value} (C : xCtx V K cc own nL d false ini ret sc post) (kc : xCls ci Cn T N ty) (fl : xFl own idx Cn T N k0) (hd : decode cc pc = .ok (.putfield idx, 3)) (hq : h a = some (.inr (ci, fs))) (hfin : (T k0).2.2.2 = false) (hn : narrow (ty k0) v = v) (hfit : fits (ty k0) v = true) (hlen : k0 < fs.length) {fs' : List Value} (hfs : fs.set k0 v = fs') (k : ∀ h' : xH, h' = va_up h a (some (.inr (ci, fs'))) → K mc ms h' (pc + 3) lv rest) : K mc ms h pc lv (v :: .ref a :: rest) := by
  obtain ⟨⟨p, e, R, s, m, args, below, meth, c, Q, ⟨hx, hb, hml, hown, hts, hE, hz, hdF, hdL⟩, hin, hsc, rfl⟩, -⟩ := C
  intro H locs cells slots ls hR hS hG hmc hms hl
  subst hfs
  obtain ⟨L, f, j, hLf, hP, hD, haL, hfa, hj⟩ := hR.pos hq
  obtain ⟨hk0, hT1, hw | ⟨host, hw⟩⟩ := fl
  · exact va_put hx hb hts kc.2.1 ty kc.2.2.1 kc.2.2.2 hown hE.1 hP hD hS j hj kc.1 k0 hk0 (hts _ hw) (fun x9 h9 => by rw [hT1] at h9; exact h9) hfin (kc.2.2.1 k0 hk0) hn hfit hlen hd (fun H1 locs1 hP1 hD1 hS1 => k _ rfl H1 locs1 cells slots ls (xRep.set hLf haL hfa hj hD hP1 hD1) hS1 (fun q => nomatch q) hmc hms hl)
  · exact va_putN hx hb hts kc.2.1 ty kc.2.2.1 kc.2.2.2 hown hE.1 hP hD hS j hj kc.1 k0 hk0 (va_Nw.use rfl (hE.2.1 _ hw)) (fun x9 h9 => by rw [hT1] at h9; exact h9) hfin (kc.2.2.1 k0 hk0) hn hfit hlen hd (fun H1 locs1 hP1 hD1 hS1 => k _ rfl H1 locs1 cells slots ls (xRep.set hLf haL hfa hj hD hP1 hD1) hS1 (fun q => nomatch q) hmc hms hl)
theorem x_putF {idx ci a k0 N : Nat} {T : u_T} {ty : Nat → FieldType} {fs : List Value} {v : Value} (C : xCtx V K cc own nL d false true ret sc post) (kc : xCls ci own T N ty) (fl : k0 < N ∧ (T k0).1 = own ∧ Cond.fieldLink own idx own (T k0).2.1 (T k0).2.2.1 ∈ xT) (hd : decode cc pc = .ok (.putfield idx, 3)) (hq : h a = some (.inr (ci, fs))) (hfin : (T k0).2.2.2 = true) (hn : narrow (ty k0) v = v) (hfit : fits (ty k0) v = true) (hlen : k0 < fs.length) {fs' : List Value} (hfs : fs.set k0 v = fs') (k : ∀ h' : xH, h' = va_up h a (some (.inr (ci, fs'))) → K mc ms h' (pc + 3) lv rest) : K mc ms h pc lv (v :: .ref a :: rest) := by
  obtain ⟨⟨p, e, R, s, m, args, below, meth, c, Q, ⟨hx, hb, hml, hown, hts, hE, hz, hdF, hdL⟩, hin, hsc, rfl⟩, -⟩ := C
  intro H locs cells slots ls hR hS hG hmc hms hl
  subst hfs
  obtain ⟨L, f, j, hLf, hP, hD, haL, hfa, hj⟩ := hR.pos hq
  obtain ⟨hk0, hT1, hw⟩ := fl
  exact va_putF hx hb hts kc.2.1 ty kc.2.2.1 kc.2.2.2 hown hE.1 hP hD hS j hj kc.1 k0 hk0 (hts _ hw) (fun x9 h9 => by rw [hT1] at h9; exact h9) hfin (hin rfl) hT1 (kc.2.2.1 k0 hk0) hn hfit hlen hd (fun H1 locs1 hP1 hD1 hS1 => k _ rfl H1 locs1 cells slots ls (xRep.set hLf haL hfa hj hD hP1 hD1) hS1 (fun q => nomatch q) hmc hms hl)
theorem x_iald {a n : Nat} {f : Nat → Int32} {i : Int32} (C : xCtx V K cc own nL d pu ini ret sc post) (hd : decode cc pc = .ok (.iaload, 1)) (hq : h a = some (xI V n f)) (hi : vp_in i n) (k : K mc ms h (pc + 1) lv (.int (f i.toNatClampNeg) :: rest)) : K mc ms h pc lv (.int i :: .ref a :: rest) := by
  obtain ⟨⟨p, e, R, s, m, args, below, meth, c, Q, ⟨hx, hb, hml, hown, hts, hE, hz, hdF, hdL⟩, hin, hsc, rfl⟩, -⟩ := C
  intro H locs cells slots ls hR hS hG hmc hms hl
  obtain ⟨L, f9, j, hLf, hP, hD, haL, hfa, hj⟩ := hR.pos hq
  exact va_iald hx hb hE.1 hP j 0 hj rfl hi hd (k H locs cells slots ls hR hS hG hmc hms hl)
theorem x_iast {a n : Nat} {f : Nat → Int32} {i x : Int32} (C : xCtx V K cc own nL d false ini ret sc post) (hd : decode cc pc = .ok (.iastore, 1)) (hq : h a = some (xI V n f)) (hi : vp_in i n) (k : ∀ h' : xH, h' = va_up h a (some (xI V n (upd f i.toNatClampNeg x))) → K mc ms h' (pc + 1) lv rest) : K mc ms h pc lv (.int x :: .int i :: .ref a :: rest) := by
  obtain ⟨⟨p, e, R, s, m, args, below, meth, c, Q, ⟨hx, hb, hml, hown, hts, hE, hz, hdF, hdL⟩, hin, hsc, rfl⟩, -⟩ := C
  intro H locs cells slots ls hR hS hG hmc hms hl
  obtain ⟨L, f9, j, hLf, hP, hD, haL, hfa, hj⟩ := hR.pos hq
  exact va_iast hx hb hE.1 hP hD hS j 0 hj rfl hi hd (fun H1 locs1 hP1 hD1 hS1 => k _ rfl H1 locs1 cells slots ls (xRep.set hLf haL hfa hj hD hP1 hD1) hS1 (fun q => nomatch q) hmc hms hl)
theorem x_lald {a n : Nat} {f : Nat → Int64} {i : Int32} (C : xCtx V K cc own nL d pu ini ret sc post) (hd : decode cc pc = .ok (.laload, 1)) (hq : h a = some (xJ V n f)) (hi : vp_in i n) (k : K mc ms h (pc + 1) lv (.long (f i.toNatClampNeg) :: rest)) : K mc ms h pc lv (.int i :: .ref a :: rest) := by
  obtain ⟨⟨p, e, R, s, m, args, below, meth, c, Q, ⟨hx, hb, hml, hown, hts, hE, hz, hdF, hdL⟩, hin, hsc, rfl⟩, -⟩ := C
  intro H locs cells slots ls hR hS hG hmc hms hl
  obtain ⟨L, f9, j, hLf, hP, hD, haL, hfa, hj⟩ := hR.pos hq
  exact va_lald hx hb hE.1 hP j 1 hj rfl hi hd (k H locs cells slots ls hR hS hG hmc hms hl)
theorem x_last {a n : Nat} {f : Nat → Int64} {i : Int32} {x : Int64} (C : xCtx V K cc own nL d false ini ret sc post) (hd : decode cc pc = .ok (.lastore, 1)) (hq : h a = some (xJ V n f)) (hi : vp_in i n) (k : ∀ h' : xH, h' = va_up h a (some (xJ V n (vp_updL f i.toNatClampNeg x))) → K mc ms h' (pc + 1) lv rest) : K mc ms h pc lv (.long x :: .int i :: .ref a :: rest) := by
  obtain ⟨⟨p, e, R, s, m, args, below, meth, c, Q, ⟨hx, hb, hml, hown, hts, hE, hz, hdF, hdL⟩, hin, hsc, rfl⟩, -⟩ := C
  intro H locs cells slots ls hR hS hG hmc hms hl
  obtain ⟨L, f9, j, hLf, hP, hD, haL, hfa, hj⟩ := hR.pos hq
  exact va_last hx hb hE.1 hP hD hS j 1 hj rfl hi hd (fun H1 locs1 hP1 hD1 hS1 => k _ rfl H1 locs1 cells slots ls (xRep.set hLf haL hfa hj hD hP1 hD1) hS1 (fun q => nomatch q) hmc hms hl)
theorem x_aald {a n t : Nat} {Cn : String} {f : Nat → Option Nat} {i : Int32} (C : xCtx V K cc own nL d pu ini ret sc post) (ht : (xTy V)[t]? = some (V.2.2.1 t, .object Cn)) (hd : decode cc pc = .ok (.aaload, 1)) (hq : h a = some (xR V t n f)) (hi : vp_in i n) (k : K mc ms h (pc + 1) lv (va_rf (f i.toNatClampNeg) :: rest)) : K mc ms h pc lv (.int i :: .ref a :: rest) := by
  obtain ⟨⟨p, e, R, s, m, args, below, meth, c, Q, ⟨hx, hb, hml, hown, hts, hE, hz, hdF, hdL⟩, hin, hsc, rfl⟩, -⟩ := C
  intro H locs cells slots ls hR hS hG hmc hms hl
  obtain ⟨L, f9, j, hLf, hP, hD, haL, hfa, hj⟩ := hR.pos hq
  exact va_aldq hx hb hE.1 hP j t hj ht hi hd (k H locs cells slots ls hR hS hG hmc hms hl)
theorem x_aast {a n t b ci N : Nat} {Cn : String} {T : u_T} {fs : List Value} {f : Nat → Option Nat} {i : Int32} (C : xCtx V K cc own nL d false ini ret sc post) (ht : (xTy V)[t]? = some (V.2.2.1 t, .object Cn)) (hc : vwCl[ci]? = some (Cn, T, N)) (hd : decode cc pc = .ok (.aastore, 1)) (hq : h a = some (xR V t n f)) (hq2 : h b = some (.inr (ci, fs))) (hi : vp_in i n) (k : ∀ h' : xH, h' = va_up h a (some (xR V t n (va_up f i.toNatClampNeg (some b)))) → K mc ms h' (pc + 1) lv rest) : K mc ms h pc lv (.ref b :: .int i :: .ref a :: rest) := by
  obtain ⟨⟨p, e, R, s, m, args, below, meth, c, Q, ⟨hx, hb, hml, hown, hts, hE, hz, hdF, hdL⟩, hin, hsc, rfl⟩, -⟩ := C
  intro H locs cells slots ls hR hS hG hmc hms hl
  obtain ⟨L, f9, j, hLf, hP, hD, haL, hfa, hj⟩ := hR.pos hq
  obtain ⟨hb1, hb2⟩ := hLf b _ hq2
  obtain ⟨j2, hj2⟩ := va_pl_get (X := []) (f := f9) hb1
  rw [hb2] at hj2
  exact va_astq hx hb hE.1 hP hD hS j t j2 ci hj ht hj2 hc hi hd (fun H1 locs1 hP1 hD1 hS1 => k _ rfl H1 locs1 cells slots ls (xRep.set hLf haL hfa hj hD hP1 hD1) hS1 (fun q => nomatch q) hmc hms hl)
theorem x_alenI {a n : Nat} {f : Nat → Int32} (C : xCtx V K cc own nL d pu ini ret sc post) (hd : decode cc pc = .ok (.arraylength, 1)) (hq : h a = some (xI V n f)) (k : K mc ms h (pc + 1) lv (.int (Int32.ofNat n) :: rest)) : K mc ms h pc lv (.ref a :: rest) := by
  obtain ⟨⟨p, e, R, s, m, args, below, meth, c, Q, ⟨hx, hb, hml, hown, hts, hE, hz, hdF, hdL⟩, hin, hsc, rfl⟩, -⟩ := C
  intro H locs cells slots ls hR hS hG hmc hms hl
  obtain ⟨L, f9, j, hLf, hP, hD, haL, hfa, hj⟩ := hR.pos hq
  exact va_alen hx hb hE.1 hP j 0 hj (ty := .int) rfl rfl hd (k H locs cells slots ls hR hS hG hmc hms hl)
theorem x_alenR {a n t : Nat} {Cn : String} {f : Nat → Option Nat} (C : xCtx V K cc own nL d pu ini ret sc post) (ht : (xTy V)[t]? = some (V.2.2.1 t, .object Cn)) (hd : decode cc pc = .ok (.arraylength, 1)) (hq : h a = some (xR V t n f)) (k : K mc ms h (pc + 1) lv (.int (Int32.ofNat n) :: rest)) : K mc ms h pc lv (.ref a :: rest) := by
  obtain ⟨⟨p, e, R, s, m, args, below, meth, c, Q, ⟨hx, hb, hml, hown, hts, hE, hz, hdF, hdL⟩, hin, hsc, rfl⟩, -⟩ := C
  intro H locs cells slots ls hR hS hG hmc hms hl
  obtain ⟨L, f9, j, hLf, hP, hD, haL, hfa, hj⟩ := hR.pos hq
  exact va_alen hx hb hE.1 hP j t hj ht rfl hd (k H locs cells slots ls hR hS hG hmc hms hl)
theorem x_newI {n : Int32} {N : Nat} (C : xCtx V K cc own nL d false ini ret sc post) (hw : Cond.arrayClass .int ∈ xT) (hd : decode cc pc = .ok (.newarray .int, 2)) (hn : ¬ n < 0) (hN : n.toNatClampNeg = N) (hb9 : N * 4 ≤ 536870912) (k : ∀ (q : Nat) (h' : xH), h q = none → h' = va_up h q (some (xI V N (fun _ => 0))) → K mc ms h' (pc + 2) lv (.ref q :: rest)) : K (mc + 1) (ms + N) h pc lv (.int n :: rest) := by
  obtain ⟨⟨p, e, R, s, m, args, below, meth, c, Q, ⟨hx, hb, hml, hown, hts, hE, hz, hdF, hdL⟩, hin, hsc, rfl⟩, -⟩ := C
  intro H locs cells slots ls hR hS hG hmc hms hl
  obtain ⟨L, f, hLf, hP, hD⟩ := hR
  refine va_newa (atype := .int) hx hb (hts _ hw) (ty := .int) rfl hE.1 hP hD hS (fun q hq => Nat.le_trans hz hq) (a0 := (N, .inl (fun _ => 0))) (fun cA => rfl) hn hN hb9 (by omega) (by omega) hd (fun q cA H1 hK1 hP1 hD1 hS1 => ?_)
  have hcA : cA = V.2.2.1 0 := Option.some.inj (((hK1.2 4 (cA, .int) rfl).2).symm.trans (hE.1.2 0 (V.2.2.1 0, .int) rfl).2)
  subst hcA
  obtain ⟨hf, hr⟩ := xRep.push hLf hP1 hD1
  exact k q _ hf rfl H1 locs (cells + 1) (slots + N) ls hr hS1 (fun q => nomatch q) (by omega) (by omega) hl
theorem x_newJ {n : Int32} {N : Nat} (C : xCtx V K cc own nL d false ini ret sc post) (hw : Cond.arrayClass .long ∈ xT) (hd : decode cc pc = .ok (.newarray .long, 2)) (hn : ¬ n < 0) (hN : n.toNatClampNeg = N) (hb9 : N * 8 ≤ 536870912) (k : ∀ (q : Nat) (h' : xH), h q = none → h' = va_up h q (some (xJ V N (fun _ => 0))) → K mc ms h' (pc + 2) lv (.ref q :: rest)) : K (mc + 1) (ms + N) h pc lv (.int n :: rest) := by
  obtain ⟨⟨p, e, R, s, m, args, below, meth, c, Q, ⟨hx, hb, hml, hown, hts, hE, hz, hdF, hdL⟩, hin, hsc, rfl⟩, -⟩ := C
  intro H locs cells slots ls hR hS hG hmc hms hl
  obtain ⟨L, f, hLf, hP, hD⟩ := hR
  refine va_newa (atype := .long) hx hb (hts _ hw) (ty := .long) rfl hE.1 hP hD hS (fun q hq => Nat.le_trans hz hq) (a0 := (N, .inr (.inl (fun _ => 0)))) (fun cA => rfl) hn hN hb9 (by omega) (by omega) hd (fun q cA H1 hK1 hP1 hD1 hS1 => ?_)
  have hcA : cA = V.2.2.1 1 := Option.some.inj (((hK1.2 4 (cA, .long) rfl).2).symm.trans (hE.1.2 1 (V.2.2.1 1, .long) rfl).2)
  subst hcA
  obtain ⟨hf, hr⟩ := xRep.push hLf hP1 hD1
  exact k q _ hf rfl H1 locs (cells + 1) (slots + N) ls hr hS1 (fun q => nomatch q) (by omega) (by omega) hl
theorem x_newR {n : Int32} {N idx t : Nat} {Cn : String} (C : xCtx V K cc own nL d false ini ret sc post) (ht : (xTy V)[t]? = some (V.2.2.1 t, .object Cn)) (hAO : Cn = "CursorBase$Operand" ∨ Cn = "CursorBase$Condition") (hw : Cond.classLink own idx Cn ∈ xT) (hd : decode cc pc = .ok (.anewarray idx, 3)) (hn : ¬ n < 0) (hN : n.toNatClampNeg = N) (hb9 : N * 4 ≤ 536870912) (k : ∀ (q : Nat) (h' : xH), h q = none → h' = va_up h q (some (xR V t N (fun _ => none))) → K mc ms h' (pc + 3) lv (.ref q :: rest)) : K (mc + 1) (ms + N) h pc lv (.int n :: rest) := by
  obtain ⟨⟨p, e, R, s, m, args, below, meth, c, Q, ⟨hx, hb, hml, hown, hts, hE, hz, hdF, hdL⟩, hin, hsc, rfl⟩, -⟩ := C
  intro H locs cells slots ls hR hS hG hmc hms hl
  obtain ⟨L, f, hLf, hP, hD⟩ := hR
  have hao : va_AO Cn s := by rcases hAO with rfl | rfl; exact hE.2.2.1; exact hE.2.2.2.1
  refine va_newq hx hb hown (hts _ hw) hao hE.1 hP hD hS (fun q hq => Nat.le_trans hz hq) hn hN hb9 (by omega) (by omega) hd (fun q cA H1 hK1 hP1 hD1 hS1 => ?_)
  have hcA : cA = V.2.2.1 t := by
    obtain ⟨_, _, _, _, _, a1⟩ := (hK1.2 4 (cA, .object Cn) rfl).2
    obtain ⟨_, _, _, _, _, a2⟩ := (hE.1.2 t (V.2.2.1 t, .object Cn) ht).2
    exact Option.some.inj (a1.symm.trans a2)
  subst hcA
  obtain ⟨hf, hr⟩ := xRep.push hLf hP1 hD1
  exact k q _ hf rfl H1 locs (cells + 1) (slots + N) ls hr hS1 (fun q => nomatch q) (by omega) (by omega) hl
theorem x_new {ci idx N : Nat} {Cn : String} {T : u_T} {ty : Nat → FieldType} {fs : List Value} (C : xCtx V K cc own nL d false ini ret sc post) (kc : xCls ci Cn T N ty) (hw : Cond.classLink own idx Cn ∈ xT ∧ Cond.instantiable Cn N ∈ xT ∧ Cond.initialized Cn ∈ xT) (hd : decode cc pc = .ok (.new idx, 3)) (hfs : ∀ j, j < N → defaultValue (ty j) = vp_V fs j) (k : ∀ (q : Nat) (h' : xH), h q = none → h' = va_up h q (some (.inr (ci, fs))) → K mc ms h' (pc + 3) lv (.ref q :: st)) : K (mc + 1) (ms + N) h pc lv st := by
  obtain ⟨⟨p, e, R, s, m, args, below, meth, c, Q, ⟨hx, hb, hml, hown, hts, hE, hz, hdF, hdL⟩, hin, hsc, rfl⟩, -⟩ := C
  intro H locs cells slots ls hR hS hG hmc hms hl
  obtain ⟨L, f, hLf, hP, hD⟩ := hR
  refine va_new hx hb hts kc.2.1 ty kc.2.2.1 hown (hts _ hw.1) (hts _ hw.2.1) (hts _ hw.2.2) hE.1 hP hD hS (fun q hq => Nat.le_trans hz hq) kc.1 hfs (by omega) (by omega) hd (fun q H1 hP1 hD1 hS1 => ?_)
  obtain ⟨hf, hr⟩ := xRep.push hLf hP1 hD1
  exact k q _ hf rfl H1 locs (cells + 1) (slots + N) ls hr hS1 (fun q => nomatch q) (by omega) (by omega) hl
theorem x_objInit {a idx : Nat} (C : xCtx V K cc own nL d pu ini ret sc post) (hw : Cond.methodLink own idx objectInit ∈ xT ∧ Cond.instanceMethod objectInit ∈ xT ∧ Cond.code objectInit ⟨#[0xb1]⟩ 1 none ∈ xT) (h1 : 1 ≤ d) (h8 : (rest.map fun v => v.category).sum ≤ 8) (hd : decode cc pc = .ok (.invokespecial idx, 3)) (k : K mc ms h (pc + 3) lv rest) : K mc ms h pc lv (.ref a :: rest) := by
  obtain ⟨⟨p, e, R, s, m, args, below, meth, c, Q, ⟨hx, hb, hml, hown, hts, hE, hz, hdF, hdL⟩, hin, hsc, rfl⟩, -⟩ := C
  intro H locs cells slots ls hR hS hG hmc hms hl
  have h9 := lv_room (m := m) (pc := pc) (ls := ls) (rest := Value.ref a :: rest) h8
  exact W.objInit hx hb hown (hts _ hw.1) (hts _ hw.2.1) (hts _ hw.2.2) (g := F0 m pc ls (.ref a :: rest)) rfl (hl.1.trans hml.symm) rfl hd (by omega) (by omega) (k H locs cells slots ls hR hS hG hmc hms hl)
theorem x_copy {a b idx n0 n1 : Nat} {f g : Nat → Int32} {sp dp n : Int32} (C : xCtx V K cc own nL d false ini ret sc post) (hw : Cond.methodLink own idx arraycopyName ∈ xT ∧ Cond.native arraycopyName ∈ xT ∧ Cond.static arraycopyName ∈ xT ∧ Cond.initialized "java/lang/System" ∈ xT) (hd1 : 3 ≤ d) (h8 : (rest.map fun v => v.category).sum ≤ 8) (hq : h a = some (xI V n0 f)) (hq2 : h b = some (xI V n1 g)) (h1 : ¬ sp < 0) (h2 : ¬ dp < 0) (h3 : ¬ n < 0) (h4 : sp.toNatClampNeg + n.toNatClampNeg ≤ n0) (h5 : dp.toNatClampNeg + n.toNatClampNeg ≤ n1) (hd : decode cc pc = .ok (.invokestatic idx, 3))
    (k : ∀ h' : xH, h' = va_up h b (some (xI V n1 (va_cpy f g sp.toNatClampNeg dp.toNatClampNeg n.toNatClampNeg))) → K mc ms h' (pc + 3) lv rest) : K mc ms h pc lv (.int n :: .int dp :: .ref b :: .int sp :: .ref a :: rest) := by
  obtain ⟨⟨p, e, R, s, m, args, below, meth, c, Q, ⟨hx, hb, hml, hown, hts, hE, hz, hdF, hdL⟩, hin, hsc, rfl⟩, -⟩ := C
  intro H locs cells slots ls hR hS hG hmc hms hl
  obtain ⟨L, f9, j, hLf, hP, hD, haL, hfa, hj⟩ := hR.pos hq2
  obtain ⟨ha1, ha2⟩ := hLf a _ hq
  obtain ⟨j2, hj2⟩ := va_pl_get (X := []) (f := f9) ha1
  rw [ha2] at hj2
  have hnw : nativeFrameWords "java/lang/System" "arraycopy" 5 + 11 ≤ 56 := by decide +kernel
  exact va_copyi hx hb (hml.trans hl.1.symm) hown (hts _ hw.1) (hts _ hw.2.1) (hts _ hw.2.2.1) (hts _ hw.2.2.2) hE.1 hP hD hS j2 j 0 0 (ty := .int) hj2 hj rfl rfl rfl h1 h2 h3 h4 h5 (fun i hi => rfl) (by omega) (by omega) hd (fun H1 locs1 hP1 hD1 hS1 => k _ rfl H1 locs1 cells slots ls (xRep.set hLf haL hfa hj hD hP1 hD1) hS1 (fun q => nomatch q) hmc hms hl)
theorem x_sld {b L : Nat} {xs : Nat → Int32} {i : Int32} (C : xCtx V K cc own nL d pu ini ret (some (b, L, xs)) post) (hd : decode cc pc = .ok (.iaload, 1)) (hi : vp_in i L) (k : K mc ms h (pc + 1) lv (.int (xs i.toNatClampNeg) :: rest)) : K mc ms h pc lv (.int i :: .ref b :: rest) := by
  obtain ⟨⟨p, e, R, s, m, args, below, meth, c, Q, ⟨hx, hb, hml, hown, hts, hE, hz, hdF, hdL⟩, hin, hsc, rfl⟩, -⟩ := C
  intro H locs cells slots ls hR hS hG hmc hms hl
  obtain ⟨hX, hbz⟩ := hsc b L xs rfl
  exact va_sld hx hb hX (Nat.lt_of_lt_of_le hbz hz) (fun q => by have q : V.2.2.2 ≤ b := q; omega) hS hi hd (k H locs cells slots ls hR hS hG hmc hms hl)
theorem x_slen {b L : Nat} {xs : Nat → Int32} (C : xCtx V K cc own nL d pu ini ret (some (b, L, xs)) post) (hd : decode cc pc = .ok (.arraylength, 1)) (k : K mc ms h (pc + 1) lv (.int (Int32.ofNat L) :: rest)) : K mc ms h pc lv (.ref b :: rest) := by
  obtain ⟨⟨p, e, R, s, m, args, below, meth, c, Q, ⟨hx, hb, hml, hown, hts, hE, hz, hdF, hdL⟩, hin, hsc, rfl⟩, -⟩ := C
  intro H locs cells slots ls hR hS hG hmc hms hl
  obtain ⟨hX, hbz⟩ := hsc b L xs rfl
  exact va_slen hx hb hX (Nat.lt_of_lt_of_le hbz hz) (fun q => by have q : V.2.2.2 ≤ b := q; omega) hS hd (k H locs cells slots ls hR hS hG hmc hms hl)
end XR
/-! CONTRACTS -/
abbrev xRm (d mc ms : Nat) : Room := { frames := d, cells := mc, slots := ms, locals := 30 * d }
def xPc (V : xV) (as : List Value) (h : xH) : Array Value → State → Prop := va_Pc as (fun U => V.2.2.2 ≤ U.heap.size ∧ xRep V h U.heap ∧ xE V U)
def xQ (V : xV) (post : Option Value → xH → Prop) : Array Value → State → Outcome → State → Prop := fun _ st oc t => (∃ (v : Option Value) (h' : xH), oc = .returned v ∧ post v h' ∧ xRep V h' t.heap) ∧ va_F (xA V) st t
/-- method y, from arguments 'as' and the view h, returns with 'post', at most mc cells and ms slots new; calls nest at most d deep -/
def xM (V : xV) (y : MethodName) (cc : ByteArray) (nL : Nat) (ret : Option FieldType) (d : Nat) (as : List Value) (h : xH) (mc ms : Nat) (post : Option Value → xH → Prop) : Prop :=
  Met V.1 y (Cond.code y cc nL ret :: xT) (xRm d mc ms) (xPc V as h) (xQ V post) mc ms (xA V)
theorem xPc.blind {V : xV} {as : List Value} {h : xH} : FrameBlind (xPc V as h) := fun a U g mk q => ⟨q.1, q.2.1, q.2.2.1, xE.moved (s := U) (U := U.calling g mk a) (State.WarmedH.refl U) (fun _ _ _ => rfl) q.2.2.2⟩
theorem xGood {y : MethodName} {cc : ByteArray} {nL : Nat} {ret : Option FieldType} (hc : Cond.code y cc nL ret ∈ xT) : GoodIn xT (Cond.code y cc nL ret :: xT) := fun w hw => by
  have h1 : w ∈ xT := by
    rcases List.mem_cons.mp hw with rfl | h
    · exact hc
    · exact h
  exact ⟨h1, good_of_word (xT_good w h1)⟩
theorem xM_of {V : xV} {y : MethodName} {cc : ByteArray} {nL : Nat} {ret : Option FieldType} {d : Nat} {as : List Value} {h : xH} {mc ms : Nat} {post : Option Value → xH → Prop} (ini : Bool) (hy : plainName y.cls = true) (hi : ini = true → y.name = "<init>") (hn : (lg_sl as).length ≤ nL)
    (body : ∀ K : xK, xCtx V K cc y.cls nL d false ini ret none post → K mc ms h 0 (lv_args 0 as) []) : xM V y cc nL ret d as h mc ms post := by
  refine Met.ofW (cc := cc) (maxL := nL) (ret := ret) hy rfl ?_
  intro p e s m args below meth c s₁ B hml hv
  obtain ⟨rfl, hz, hR, hE⟩ := hv
  have hts := atoms_spec (ws := Cond.code y cc nL ret :: xT) B.pre
  have hlocks := B.notSynchronized
  have C : xCtx V (xX V false p e (xRm d mc ms) s m as.toArray below meth c nL (MQ below (xQ V post) as.toArray s mc ms (xA V))) cc y.cls nL d false ini ret none post := by
    refine ⟨⟨p, e, xRm d mc ms, s, m, as.toArray, below, meth, c, _, ⟨B.exec, B.bytes, hml, findClass_of_methodNamed B.named, fun w hw => hts w (List.mem_cons_of_mem _ hw), hE, hz, Nat.le_refl _, Nat.le_refl _⟩, fun q => (name_of_methodNamed B.named B.method).1.trans (hi q), fun b L xs q => (nomatch q), rfl⟩, ?_⟩
    intro mc' ms' h' pc lv st v hr hp
    intro H locs cells slots ls hR hS hG hmc hms hl
    have h1 : cells ≤ mc := by have : cells + mc' ≤ mc := hmc; omega
    have h2 : slots ≤ ms := by have : slots + ms' ≤ ms := hms; omega
    refine W.widen h1 h2 ?_
    rcases hr with ⟨hd, hr0, rfl, rfl⟩ | ⟨hd, ty, x, hr0, hn0, rfl, rfl⟩ | ⟨hd, x, hr0, rfl, rfl⟩ | ⟨hd, n, u, hr0, hu, rfl, rfl⟩
    · exact W.vret B.exec B.bytes (B.returns.trans hr0) (fun t ht hW => ⟨⟨none, h', rfl, hp, by rw [ht]; exact hR⟩, hS.F ht⟩) hS.2.2 hd
    · exact W.zret B.exec B.bytes (B.returns.trans hr0) hn0 (fun t ht hW => ⟨⟨some (.int x), h', rfl, hp, by rw [ht]; exact hR⟩, hS.F ht⟩) hS.2.2 hd
    · exact W.lret B.exec B.bytes (B.returns.trans hr0) (fun t ht hW => ⟨⟨some (.long x), h', rfl, hp, by rw [ht]; exact hR⟩, hS.F ht⟩) hS.2.2 hd
    · exact W.aret B.exec B.bytes (B.returns.trans hr0) (Or.inl ⟨n, rfl⟩) hu (fun t ht hW => ⟨⟨some u, h', rfl, hp, by rw [ht]; exact hR⟩, hS.F ht⟩) hS.2.2 hd
  have hl := lv_entry as (n := nL) hn
  rw [lg_entry_eq]
  exact body _ C s.heap [] 0 0 _ hR va_S.rf (fun q => nomatch q) (by show 0 + mc ≤ mc; omega) (by show 0 + ms ≤ ms; omega) hl
theorem x_run {V : xV} {p : Program} {e : Env} {R : Room} {s : State} {m : MethodId} {args : Array Value} {below : List Frame} {meth : Method} {c : Code} {H H0 : Heap} {locs : List Loc} {cells slots mc ms pc : Nat} {Q : State → Prop} {ls : Array Slot} {st0 rest : List Value} {a : Array Value} {Qp : Option Value → xH → Prop}
    (hr : va_Run p V.1 e R s m args below meth c H locs cells slots mc ms (F0 m pc ls st0) rest (xQ V Qp a) (xA V)) (hS : va_S (xA V) H0 H locs)
    (kk : ∀ (v : Option Value) (h' : xH) (H1 : Heap) (locs1 : List Loc), Qp v h' → xRep V h' H1 → va_S (xA V) H0 H1 locs1 → W p V.1 e R s m args below meth c H1 locs1 (cells + mc) (slots + ms) Q (F0 m (pc + 3) ls (v.toList ++ rest))) : W p V.1 e R s m args below meth c H locs cells slots Q (F0 m pc ls st0) := by
  intro T hT X
  obtain ⟨v, st₀, t, T', L, h0, X', hL, e1, e2, ⟨⟨r, h', hv, hp, hb⟩, hz, hk⟩, st⟩ := hr T hT X
  cases hv
  rw [h0] at hz hk
  obtain ⟨t2, a1, b1⟩ := kk v h' T'.heap (locs ++ L) hp (by rw [e1]; exact hb)
    ⟨Nat.le_trans hS.1 (by rw [e1]; exact hz), fun q h1 h2 => by rw [e1, hk q (Nat.lt_of_lt_of_le h1 hS.1) h2]; exact hS.2.1 q h1 h2, fun q hq => by
      rcases List.mem_append.mp hq with h | h
      · exact hS.2.2 q h
      · exact hL q h⟩ T' rfl X'
  exact ⟨t2, st t2 a1, b1⟩
section XC
variable {V : xV} {K : xK} {cc : ByteArray} {own : String} {nL d : Nat} {pu ini : Bool} {ret : Option FieldType} {sc : xS} {post : Option Value → xH → Prop} {mc ms pc : Nat} {h : xH} {lv : List (Nat × Value)} {st rest : List Value}
variable {idx n : Nat} {y : MethodName} {ccy : ByteArray} {nLy : Nat} {rety : Option FieldType} {d' mc' ms' b : Nat} {As : List Value} {Qp : Option Value → xH → Prop}
theorem x_callV {ci N : Nat} {T : u_T} {fs : List Value} (C : xCtx V K cc own nL d false ini ret sc post) (hwl : xLk own idx y) (hw : xY 0 y ccy nLy rety n) (hd : decode cc pc = .ok (.invokevirtual idx, 3)) (hM : xM V y ccy nLy rety d' (.ref b :: As) h mc' ms' Qp) (hq : h b = some (.inr (ci, fs))) (hc : vwCl[ci]? = some (y.cls, T, N)) (hst : st = As.reverse ++ .ref b :: rest) (hn : As.length = n) (hd' : d' + 1 ≤ d) (hnl : nLy ≤ 11) (h8 : (rest.map fun v => v.category).sum ≤ 8)
    (kk : ∀ (v : Option Value) (h' : xH), Qp v h' → K mc ms h' (pc + 3) lv (v.toList ++ rest)) : K (mc + mc') (ms + ms') h pc lv st := by
  obtain ⟨⟨p, e, R, s, m, args, below, meth, c, Q, ⟨hx, hb, hml, hown, hts, hE, hz, hdF, hdL⟩, hin, hsc, rfl⟩, -⟩ := C
  intro H locs cells slots ls hR hS hG hmc hms hl
  subst hst
  obtain ⟨hwc, hwi, hwm, hwn, hw0, hw1, hw2⟩ := hw
  have hrm : (xRm d' mc' ms').frames + 1 ≤ R.frames ∧ 8 + (nLy + 11) + (xRm d' mc' ms').locals ≤ R.locals := ⟨by show d' + 1 ≤ R.frames; omega, by show 8 + (nLy + 11) + 30 * d' ≤ R.locals; omega⟩
  have hbud : cells + mc' ≤ R.cells ∧ slots + ms' ≤ R.slots := ⟨by omega, by omega⟩
  obtain ⟨L, f9, j, hLf, hP, hD, haL, hfa, hj⟩ := hR.pos hq
  have hrc := va_recv hE.1 hP hc hj
  obtain ⟨hw3, hw4⟩ := hw0 rfl
  rcases hwl with hwl | ⟨host, hwl⟩
  · refine x_run (va_runV (cc := cc) (nL := nL) (own := own) (Ts := xT) (C := y.cls) (b := b) (As := As) (rest := rest) (g := F0 m pc ls (As.reverse ++ .ref b :: rest)) ⟨hx, hb, hml, hown, hts⟩ hM ⟨callB_of n hts (xGood hwc) rfl rfl rfl (hts _ hwi) (hts _ hwl) ⟨hwm.1, hwm.2, hwn⟩ hrm, hts _ hw3, hts _ hw4⟩ ⟨xPc.blind, hrc, fun U hU hW => ⟨rfl, by rw [hU]; exact Nat.le_trans hz hS.1, by rw [hU]; exact hR, xE.moved hW (fun q h1 h2 => by rw [hU]; exact hS.2.1 q h1 h2) hE⟩⟩ rfl hn hl.1 rfl (lv_room h8) hd hbud) hS (fun v h' H1 locs1 hq hR1 hS1 => ?_)
    exact kk v h' hq H1 locs1 (cells + mc') (slots + ms') ls hR1 hS1 (fun q => nomatch q) (by omega) (by omega) hl
  · refine x_run (va_runVN (cc := cc) (nL := nL) (own := own) (Ts := xT) (C := y.cls) (b := b) (As := As) (rest := rest) (g := F0 m pc ls (As.reverse ++ .ref b :: rest)) ⟨hx, hb, hml, hown, hts⟩ hM ⟨va_cnB n hts (xGood hwc) rfl rfl rfl (hE.2.1 _ hwl) (hts _ hwi) ⟨hwm.1, hwm.2, hwn⟩ hrm, hts _ hw3, hts _ hw4⟩ ⟨xPc.blind, hrc, fun U hU hW => ⟨rfl, by rw [hU]; exact Nat.le_trans hz hS.1, by rw [hU]; exact hR, xE.moved hW (fun q h1 h2 => by rw [hU]; exact hS.2.1 q h1 h2) hE⟩⟩ rfl hn hl.1 rfl (lv_room h8) hd hbud) hS (fun v h' H1 locs1 hq hR1 hS1 => ?_)
    exact kk v h' hq H1 locs1 (cells + mc') (slots + ms') ls hR1 hS1 (fun q => nomatch q) (by omega) (by omega) hl
theorem x_callI  (C : xCtx V K cc own nL d false ini ret sc post) (hwl : xLk own idx y) (hw : xY 1 y ccy nLy rety n) (hd : decode cc pc = .ok (.invokespecial idx, 3)) (hM : xM V y ccy nLy rety d' (.ref b :: As) h mc' ms' Qp) (hr0 : rety = none) (hst : st = As.reverse ++ .ref b :: rest) (hn : As.length = n) (hd' : d' + 1 ≤ d) (hnl : nLy ≤ 11) (h8 : (rest.map fun v => v.category).sum ≤ 8)
    (kk : ∀ (v : Option Value) (h' : xH), Qp v h' → K mc ms h' (pc + 3) lv (v.toList ++ rest)) : K (mc + mc') (ms + ms') h pc lv st := by
  obtain ⟨⟨p, e, R, s, m, args, below, meth, c, Q, ⟨hx, hb, hml, hown, hts, hE, hz, hdF, hdL⟩, hin, hsc, rfl⟩, -⟩ := C
  intro H locs cells slots ls hR hS hG hmc hms hl
  subst hst
  obtain ⟨hwc, hwi, hwm, hwn, hw0, hw1, hw2⟩ := hw
  have hrm : (xRm d' mc' ms').frames + 1 ≤ R.frames ∧ 8 + (nLy + 11) + (xRm d' mc' ms').locals ≤ R.locals := ⟨by show d' + 1 ≤ R.frames; omega, by show 8 + (nLy + 11) + 30 * d' ≤ R.locals; omega⟩
  have hbud : cells + mc' ≤ R.cells ∧ slots + ms' ≤ R.slots := ⟨by omega, by omega⟩
  subst hr0
  obtain ⟨hw3, hw4, -⟩ := hw1 rfl
  rcases hwl with hwl | ⟨host, hwl⟩
  · refine x_run (va_runI (cc := cc) (nL := nL) (own := own) (Ts := xT) (b := b) (As := As) (rest := rest) (g := F0 m pc ls (As.reverse ++ .ref b :: rest)) ⟨hx, hb, hml, hown, hts⟩ hM ⟨callB_of n hts (xGood hwc) rfl rfl rfl (hts _ hwi) (hts _ hwl) ⟨hwm.1, hwm.2, hwn⟩ hrm, hw4, hts _ hw3⟩ ⟨xPc.blind, fun U hU hW => ⟨rfl, by rw [hU]; exact Nat.le_trans hz hS.1, by rw [hU]; exact hR, xE.moved hW (fun q h1 h2 => by rw [hU]; exact hS.2.1 q h1 h2) hE⟩⟩ rfl hn hl.1 rfl (lv_room h8) hd hbud) hS (fun v h' H1 locs1 hq hR1 hS1 => ?_)
    exact kk v h' hq H1 locs1 (cells + mc') (slots + ms') ls hR1 hS1 (fun q => nomatch q) (by omega) (by omega) hl
  · refine x_run (va_runIN (cc := cc) (nL := nL) (own := own) (Ts := xT) (b := b) (As := As) (rest := rest) (g := F0 m pc ls (As.reverse ++ .ref b :: rest)) ⟨hx, hb, hml, hown, hts⟩ hM ⟨va_cnB n hts (xGood hwc) rfl rfl rfl (hE.2.1 _ hwl) (hts _ hwi) ⟨hwm.1, hwm.2, hwn⟩ hrm, hw4, hts _ hw3⟩ ⟨xPc.blind, fun U hU hW => ⟨rfl, by rw [hU]; exact Nat.le_trans hz hS.1, by rw [hU]; exact hR, xE.moved hW (fun q h1 h2 => by rw [hU]; exact hS.2.1 q h1 h2) hE⟩⟩ rfl hn hl.1 rfl (lv_room h8) hd hbud) hS (fun v h' H1 locs1 hq hR1 hS1 => ?_)
    exact kk v h' hq H1 locs1 (cells + mc') (slots + ms') ls hR1 hS1 (fun q => nomatch q) (by omega) (by omega) hl
theorem x_callS  (C : xCtx V K cc own nL d false ini ret sc post) (hwl : xLk own idx y) (hw : xY 2 y ccy nLy rety n) (hd : decode cc pc = .ok (.invokestatic idx, 3)) (hM : xM V y ccy nLy rety d' As h mc' ms' Qp) (hst : st = As.reverse ++ rest) (hn : As.length = n) (hd' : d' + 1 ≤ d) (hnl : nLy ≤ 11) (h8 : (rest.map fun v => v.category).sum ≤ 8)
    (kk : ∀ (v : Option Value) (h' : xH), Qp v h' → K mc ms h' (pc + 3) lv (v.toList ++ rest)) : K (mc + mc') (ms + ms') h pc lv st := by
  obtain ⟨⟨p, e, R, s, m, args, below, meth, c, Q, ⟨hx, hb, hml, hown, hts, hE, hz, hdF, hdL⟩, hin, hsc, rfl⟩, -⟩ := C
  intro H locs cells slots ls hR hS hG hmc hms hl
  subst hst
  obtain ⟨hwc, hwi, hwm, hwn, hw0, hw1, hw2⟩ := hw
  have hrm : (xRm d' mc' ms').frames + 1 ≤ R.frames ∧ 8 + (nLy + 11) + (xRm d' mc' ms').locals ≤ R.locals := ⟨by show d' + 1 ≤ R.frames; omega, by show 8 + (nLy + 11) + 30 * d' ≤ R.locals; omega⟩
  have hbud : cells + mc' ≤ R.cells ∧ slots + ms' ≤ R.slots := ⟨by omega, by omega⟩
  have hw3 := hw2 rfl
  rcases hwl with hwl | ⟨host, hwl⟩
  · refine x_run (va_runS (cc := cc) (nL := nL) (own := own) (Ts := xT) (As := As) (rest := rest) (g := F0 m pc ls (As.reverse ++ rest)) ⟨hx, hb, hml, hown, hts⟩ hM ⟨callB_of n hts (xGood hwc) rfl rfl rfl (hts _ hwi) (hts _ hwl) ⟨hwm.1, hwm.2, hwn⟩ hrm, hts _ hw3⟩ ⟨xPc.blind, fun U hU hW => ⟨rfl, by rw [hU]; exact Nat.le_trans hz hS.1, by rw [hU]; exact hR, xE.moved hW (fun q h1 h2 => by rw [hU]; exact hS.2.1 q h1 h2) hE⟩⟩ rfl hn hl.1 rfl (lv_room h8) hd hbud) hS (fun v h' H1 locs1 hq hR1 hS1 => ?_)
    exact kk v h' hq H1 locs1 (cells + mc') (slots + ms') ls hR1 hS1 (fun q => nomatch q) (by omega) (by omega) hl
  · refine x_run (va_runSN (cc := cc) (nL := nL) (own := own) (Ts := xT) (As := As) (rest := rest) (g := F0 m pc ls (As.reverse ++ rest)) ⟨hx, hb, hml, hown, hts⟩ hM ⟨va_cnB n hts (xGood hwc) rfl rfl rfl (hE.2.1 _ hwl) (hts _ hwi) ⟨hwm.1, hwm.2, hwn⟩ hrm, hts _ hw3, trivial⟩ ⟨xPc.blind, fun U hU hW => ⟨rfl, by rw [hU]; exact Nat.le_trans hz hS.1, by rw [hU]; exact hR, xE.moved hW (fun q h1 h2 => by rw [hU]; exact hS.2.1 q h1 h2) hE⟩⟩ rfl hn hl.1 rfl (lv_room h8) hd hbud) hS (fun v h' H1 locs1 hq hR1 hS1 => ?_)
    exact kk v h' hq H1 locs1 (cells + mc') (slots + ms') ls hR1 hS1 (fun q => nomatch q) (by omega) (by omega) hl
end XC
