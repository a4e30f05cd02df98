/-! the law's call of a method with handlers -/
theorem xGoodW {y : MethodName} {cc : ByteArray} {nL : Nat} {ret : Option FieldType} {hs : List (Nat × Nat × Nat × Nat)} (hc : Cond.codeWith y cc nL ret hs ∈ xT) : GoodIn xT (Cond.codeWith y cc nL ret hs :: xT) := fun w hw => by
  have h1 : w ∈ xT := by
    rcases List.mem_cons.mp hw with rfl | h
    · exact hc
    · exact h
  exact ⟨h1, good_of_word (xT_good w h1)⟩
/-- what the law's call of y asks of the tables -/
def xYW (y : MethodName) (cc : ByteArray) (nL : Nat) (ret : Option FieldType) (hs : List (Nat × Nat × Nat × Nat)) (n : Nat) : Prop :=
  Cond.codeWith y cc nL ret hs ∈ xT ∧ Cond.initialized y.cls ∈ xT ∧ (y.cls ≠ "java/lang/invoke/MethodHandle" ∧ y.cls ≠ "java/lang/invoke/VarHandle") ∧ (parseMethodDescriptor y.desc).map (fun d => d.parameters.length) = some n ∧ Cond.static y ∈ xT
theorem x_callSW {V : xV} {K : xK} {cc : ByteArray} {own : String} {nL d : Nat} {ini : Bool} {ret : Option FieldType} {sc : xS} {post : Option Value → xH → Prop} {mc ms pc : Nat} {h : xH} {lv : List (Nat × Value)} {st rest : List Value}
    {idx n : Nat} {y : MethodName} {ccy : ByteArray} {nLy : Nat} {rety : Option FieldType} {hs : List (Nat × Nat × Nat × Nat)} {d' mc' ms' : Nat} {As : List Value} {Qp : Option Value → xH → Prop}
    (C : xCtx V K cc own nL d false ini ret sc post) (hwl : Cond.methodLink own idx y ∈ xT) (hw : xYW y ccy nLy rety hs n) (hd : decode cc pc = .ok (.invokestatic idx, 3)) (hM : xMW V y ccy nLy rety hs d' As h mc' ms' Qp) (hst : st = As.reverse ++ rest) (hn : As.length = n) (hd' : d' + 1 ≤ d) (hnl : nLy ≤ 11) (h8 : (rest.map fun v => v.category).sum ≤ 8)
    (kk : ∀ (v : Option Value) (h' : xH), Qp v h' → K mc ms h' (pc + 3) lv (v.toList ++ rest)) : K (mc + mc') (ms + ms') h pc lv st := by
  obtain ⟨⟨p, e, R, s, m, args, below, meth, c, Q, ⟨hx, hb, hml, hown, hts, hE, hz, hdF, hdL⟩, hin, hsc, rfl⟩, -⟩ := C
  intro H locs cells slots ls hR hS hG hmc hms hl
  subst hst
  obtain ⟨hwc, hwi, hwm, hwn, hw2⟩ := hw
  have hrm : (xRm d' mc' ms').frames + 1 ≤ R.frames ∧ 8 + (nLy + 11) + (xRm d' mc' ms').locals ≤ R.locals := ⟨by show d' + 1 ≤ R.frames; omega, by show 8 + (nLy + 11) + 30 * d' ≤ R.locals; omega⟩
  have hws : ∀ w ∈ Cond.codeWith y ccy nLy rety hs :: xT, ∀ (a' : Array Value) (U : State), s.WarmedH U.vm → w.before a' U = true := pay_in hts (xGoodW hwc)
  have hlen : ∀ sig, parseMethodDescriptor y.desc = some sig → n = sig.parameters.length := fun sig h => by
    rw [h] at hwn
    exact (Option.some.inj hwn).symm
  have hK : Back V.1 R p e below s args y 3 8 (PreOf R mc' ms' (xPc V As h)) (PostOf (xQ V Qp) mc' ms' (xA V)) := by
    refine Back.of_freeWith (S := headSpec (Cond.codeWith y ccy nLy rety hs :: xT) (xRm d' mc' ms')) (P := xPc V As h) (K := fun _ _ _ _ _ => True) (Q := fun a st o t => xQ V Qp a st o t ∧ ∃ L, FrameEnd st o t L mc' ms' ∧ ∀ q ∈ L, xA V q.base) (bytes := ccy) (maxL := nLy) (ret := rety) (handlers := hs)
      (E := fun a st o t L k n => k = mc' ∧ n = ms' ∧ ∀ q ∈ L, xA V q.base) hM hrm.1 hrm.2 ?_ ?_ (fun _ _ _ _ _ _ _ _ _ => trivial) ?_ ?_
    · intro m meth c A a X hp
      exact ⟨atoms_intro fun w hw => hws w hw _ _ X.warmed, hws _ List.mem_cons_self _ _ X.warmed, hws _ (List.mem_cons_of_mem _ hwi) _ _ X.warmed, hp.1, hp.2.1⟩
    · intro m meth c A a g mk X hp
      exact xPc.blind _ _ _ _ hp.2.2
    · intro a st o t ⟨hq, L, hF, hL⟩
      exact ⟨L, mc', ms', hF, rfl, rfl, hL⟩
    · intro m meth c A a g mk v t L k n X hp hq hF ⟨e1, e2, hL⟩
      subst e1; subst e2
      exact ⟨g, mk, t, L, rfl, rfl, hq.1, rfl, hL, rfl, rfl⟩
  have hrun : va_Run p V.1 e R s m args below meth c H locs cells slots mc' ms' (F0 m pc ls (As.reverse ++ rest)) rest (xQ V Qp As.toArray) (xA V) := by
    intro T hT X
    obtain ⟨mk, methM, cM, hnamed, hmethM, -, -, -, -, -, -, hsigM⟩ := Cond.codeWith_spec (hts _ hwc)
    have hstatic : methM.isStatic = true := Cond.static_spec hnamed hmethM (hts _ hw2)
    obtain ⟨kP, hkP, -⟩ := className_of_methodNamed hnamed
    have hinitP : kP.init = .initialized := Cond.initialized_spec (findClass_of_methodNamed hnamed) hkP (hts _ hwi)
    obtain ⟨vm₁, X₁, hstep₁⟩ := X.invokestatic hx hown (hts _ hwl) hnamed hmethM hstatic hkP hinitP hwm (g := F0 m pc ls (As.reverse ++ rest)) rfl (argsL := As) (rest := rest) (hn.trans (hlen _ hsigM)) rfl (by rw [hb]; exact hd)
    obtain ⟨v, ⟨U', l2, c2, s2⟩, X', hpost, hsteps⟩ := hK m meth c ⟨T.setVm vm₁, locs, cells, slots⟩ (F0 m pc ls rest) (.invokestatic idx) mk As.toArray X₁ rfl (hl.1.trans hml.symm) (by rw [hb]; exact hd) (lv_room (st := rest) h8) (X₁.named hnamed)
      ⟨by show cells + mc' ≤ R.cells; omega, by show slots + ms' ≤ R.slots; omega, rfl, by show V.2.2.2 ≤ T.heap.size; rw [hT]; exact Nat.le_trans hz hS.1, by show xRep V h T.heap; rw [hT]; exact hR, xE.moved X₁.warmed (fun q h1 h2 => by show T.heap[q]? = _; rw [hT]; exact hS.2.1 q h1 h2) hE⟩
    obtain ⟨g', mk', t, L, e1, e2, hq, h1, hL, h2, h3⟩ := hpost
    dsimp only [Pt.U, Pt.locs, Pt.cells, Pt.slots] at X' e1 e2 h1 h2 h3 hsteps
    subst h1; subst h2; subst h3
    exact ⟨v, (T.setVm vm₁).calling g' mk' As.toArray, t, U', L, hT, X', hL, e1, e2, hq, fun target h => hstep₁ _ fun acts => by rw [doInvoke_state]; exact hsteps.trans h⟩
  refine x_run hrun hS (fun v h' H1 locs1 hq hR1 hS1 => ?_)
  exact kk v h' hq H1 locs1 (cells + mc') (slots + ms') ls hR1 hS1 (fun q => nomatch q) (by omega) (by omega) hl
