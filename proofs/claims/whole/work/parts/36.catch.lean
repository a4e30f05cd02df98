/-! CATCH -/
/-- the search through a table ends at the handler pc; what it resolves on its way is noted in vm' -/
def xFnd (e : Env) (S : State) (f : JFrame) (a : Addr) (tb : List ExceptionTableEntry) (pc : Nat) (vm' : Vm) : Prop := ∀ (Q : Handler → Pre) (E : CtlPost) (d : Bool) (acts : List Action), wp (findHandler.go f a tb) Q E e d acts S ↔ Q (.found pc) d acts (S.setVm vm')
theorem xFnd_row {e : Env} {S : State} {f : JFrame} {a : Addr} {x : ExceptionTableEntry} {t : List ExceptionTableEntry} {c : ClassId} {cell : Cell} (hx : covers x f.pc = true) (h0 : x.catchType ≠ 0) (hl : S.vm.ClassLinks e.platform f.method.cls x.catchType c) (hcell : S.heap[a]? = some cell) (hobj : ∀ k, cell.vm ≠ .statics k) (hk : ∃ k, S.vm.classes[cell.cls]? = some k) (hc : ∃ k, S.vm.classes[c]? = some k) :
    (S.vm.assignable cell.cls c = true → xFnd e S f a (x :: t) x.handlerPc (S.vm.noted f.method.cls x.catchType (.cls c))) ∧
    (S.vm.assignable cell.cls c = false → ∀ pc vm', xFnd e (S.setVm (S.vm.noted f.method.cls x.catchType (.cls c))) f a t pc vm' → xFnd e S f a (x :: t) pc vm') := by
  simp only [covers] at hx
  obtain ⟨ha, ht⟩ := (resolveClass_links e.toSetting hl).op (op := VmOp.resolveClass f.method.cls x.catchType) rfl
  have hal : S.vm.Alike (S.vm.noted f.method.cls x.catchType (.cls c)) := (Vm.Alike.refl S.vm).noted _ _ _
  obtain ⟨k1, hk1⟩ := hk
  obtain ⟨k2, hk2⟩ := hc
  obtain ⟨k1', hk1', -⟩ := hal.2.2 _ _ hk1
  obtain ⟨k2', hk2', -⟩ := hal.2.2 _ _ hk2
  constructor
  · intro hy Q E d acts
    have hy' : (S.vm.noted f.method.cls x.catchType (.cls c)).assignable cell.cls c = true := by rw [hal.assignable]; exact hy
    simp [findHandler.go, hx, h0, ha, ht, hcell, hobj, hk1', hk2', hy', VmOp.dirties, VmOp.acts]
  · intro hn pc vm' hf Q E d acts
    have hn' : (S.vm.noted f.method.cls x.catchType (.cls c)).assignable cell.cls c = false := by rw [hal.assignable]; exact hn
    refine Iff.trans ?_ (hf Q E d acts)
    simp [findHandler.go, hx, h0, ha, ht, hcell, hobj, hk1', hk2', hn', VmOp.dirties, VmOp.acts]
/-- the table hs of a method of 'own' sends an X that comes at pc to tgt -/
def xCh (own : String) : List (Nat × Nat × Nat × Nat) → Nat → String → Nat → Prop
  | [], _, _, _ => False
  | x :: r, pc, X, tgt => x.1 ≤ pc ∧ pc < x.2.1 ∧ x.2.2.2 ≠ 0 ∧ ((x.2.2.1 = tgt ∧ Cond.classLink own x.2.2.2 X ∈ xT) ∨ ∃ Y, Cond.classLink own x.2.2.2 Y ∈ xT ∧ (X, Y) ∈ xNo ∧ xCh own r pc X tgt)
theorem xFnd_of {e : Env} {s₀ : State} {args : Array Value} {f : JFrame} {a : Addr} {cell : Cell} {own X : String} {tgt : Nat} (hpl : e.platform.magicAccessors = ({} : Platform).magicAccessors) (hown : s₀.vm.findClass own = some f.method.cls) (hts : ∀ w ∈ xT, w.before args s₀ = true) (hno : ∀ q ∈ xNo, va_Nw (.not (.castable q.1 q.2)) s₀) (hX : s₀.vm.findClass X = some cell.cls) (hself : s₀.vm.assignable cell.cls cell.cls = true) (hobj : ∀ k, cell.vm ≠ .statics k) (hk0 : ∃ k, s₀.vm.classes[cell.cls]? = some k) :
    ∀ (tb : List ExceptionTableEntry) (S : State), s₀.WarmedH S.vm → S.heap[a]? = some cell → xCh own (tb.map (fun h => (h.startPc, h.endPc, h.handlerPc, h.catchType))) f.pc X tgt → ∃ vm', s₀.WarmedH vm' ∧ xFnd e S f a tb tgt vm' := by
  obtain ⟨k0, hk0⟩ := hk0
  intro tb
  induction tb with
  | nil => intro S _ _ h; exact h.elim
  | cons x t ih =>
    intro S hW hcell h
    obtain ⟨h1, h2, h3, h4⟩ := h
    have hcov : covers x f.pc = true := by
      simp only [covers, Bool.and_eq_true, decide_eq_true_eq]
      exact ⟨h1, h2⟩
    obtain ⟨k0', hk0', -⟩ := hW.alike.2.2 _ _ hk0
    rcases h4 with ⟨ht, hlk⟩ | ⟨Y, hlk, hn, hr⟩
    · obtain ⟨c, hc, hcl⟩ := Cond.classLink_spec hown (hts _ hlk) e.platform hpl
      cases hX.symm.trans hc
      obtain ⟨dk, _, _, kt, hd, _, _, _, _, hkt, _, hopen⟩ := hcl.here
      obtain ⟨kt', hkt', -⟩ := hW.alike.2.2 _ _ hkt
      have hf := (xFnd_row (e := e) (S := S) (f := f) (a := a) (x := x) (t := t) hcov h3 (hW.classLinks hcl) hcell hobj ⟨k0', hk0'⟩ ⟨kt', hkt'⟩).1 (by rw [hW.alike.assignable]; exact hself)
      refine ⟨_, hW.noted hd hopen (State.rightAt_cls hcl), ?_⟩
      rw [← ht]
      exact hf
    · obtain ⟨c, hc, hcl⟩ := Cond.classLink_spec hown (hts _ hlk) e.platform hpl
      obtain ⟨dk, _, _, kt, hd, _, _, _, _, hkt, _, hopen⟩ := hcl.here
      obtain ⟨kt', hkt', -⟩ := hW.alike.2.2 _ _ hkt
      have hfl : s₀.vm.assignable cell.cls c = false := by
        have hv := Cond.holds_not_iff.mp (hno (X, Y) hn)
        simp only [Cond.value, hX, hc] at hv
        exact Option.some.inj hv
      obtain ⟨vm', hW', hf⟩ := ih (S.setVm (S.vm.noted f.method.cls x.catchType (.cls c))) (hW.noted hd hopen (State.rightAt_cls hcl)) hcell hr
      exact ⟨vm', hW', (xFnd_row (e := e) (S := S) (f := f) (a := a) (x := x) (t := t) hcov h3 (hW.classLinks hcl) hcell hobj ⟨k0', hk0'⟩ ⟨kt', hkt'⟩).2 (by rw [hW.alike.assignable]; exact hfl) _ _ hf⟩
theorem x_caught {tb : Tables} {e : Env} {s target : State} {g : JFrame} {c : Code} {below : List Frame} {a : Addr} {meth : Method} {pc : Nat} {vm' : Vm} (h : At s g.method c below) (hm : s.vm.method? g.method = some meth) (hc : meth.code = some c)
    (hf : xFnd e ((s.setTop g).pushFrame (.throwing a)) g a c.exceptionTable.toList pc vm') (hrest : Steps tb e below ((s.setVm vm').setTop { g with pc := pc, stack := [.ref a] }) target) : Steps tb e below ((s.setTop g).pushFrame (.throwing a)) target := by
  obtain ⟨hgo, hw⟩ := h.throwing a
  refine Steps.head hgo hw ?_
  have hm' : ((s.setTop g).pushFrame (.throwing a)).vm.method? g.method = some meth := by simpa [State.pushFrame, State.setFrames] using hm
  have hstep : ∀ r, (stepThrowing e ((s.setTop g).pushFrame (.throwing a)) a (.java g :: r)).Is ((((s.setTop g).pushFrame (.throwing a)).setVm vm').setFrames (.java { g with pc := pc, stack := [.ref a] } :: r)) [] := by
    intro r
    simp only [stepThrowing, searchFrame, vmDo]
    generalize hr : Sem.go _ e false [] ((s.setTop g).pushFrame (.throwing a)) = res
    obtain ⟨as, rfl, ha⟩ := Sem.eq_ok_of hr (a := Handler.found pc) (s' := ((s.setTop g).pushFrame (.throwing a)).setVm vm') (acts' := []) (by simp [W.findHandler_eq hm' hc, hf _ _ _ _])
    exact ⟨rfl, ha⟩
  rw [stepThread_throwing (frames_entered h.top _), (hstep _).1]
  obtain ⟨g₀, hg⟩ := Option.isSome_iff_exists.mp h.top
  obtain ⟨r, hr⟩ := State.topJava?_eq_some.mp hg
  have hr' : (s.setVm vm').frames = .java g₀ :: r := hr
  rw [State.setTop_of_frames _ hr'] at hrest
  have e1 : (((s.setTop g).pushFrame (.throwing a)).setVm vm').setFrames (.java { g with pc := pc, stack := [.ref a] } :: s.frames.tail) = (s.setVm vm').setFrames (.java { g with pc := pc, stack := [.ref a] } :: r) := by
    rw [hr]
    show ((((s.setTop g).pushFrame (.throwing a)).setFrames (.java { g with pc := pc, stack := [.ref a] } :: r)).setVm vm') = ((s.setFrames (.java { g with pc := pc, stack := [.ref a] } :: r)).setVm vm')
    rw [State.pushFrame, State.setFrames_setFrames, State.setTop_of_frames _ hr, State.setFrames_setFrames]
  rw [e1]
  exact hrest
theorem x_same {s s' : State} {k n : Nat} (h : s.sameButNew s' [] k n) : s.heap.size ≤ s'.heap.size ∧ ∀ q, q < s.heap.size → s'.heap[q]? = s.heap[q]? := by
  refine ⟨h.2.1, fun q hq => ?_⟩
  have hc : s.heap[q]? = some s.heap[q] := Array.getElem?_eq_getElem hq
  obtain ⟨c', h1, h2, h3, h4⟩ := h.2.2.2.2.2 q _ hc
  have h5 : c'.slots = s.heap[q].slots := by
    apply Array.ext_getElem?
    intro i
    exact h4 i List.not_mem_nil
  rw [h1, hc, h2, h5]
