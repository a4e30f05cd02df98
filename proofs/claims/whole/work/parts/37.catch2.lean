/-! CATCH: methods with a table of handlers -/
def xCat (V : xV) (K : xK) (cc : ByteArray) (own : String) (d : Nat) (hs : List (Nat × Nat × Nat × Nat)) : Prop :=
  ∀ (idx n : Nat) (y : MethodName) (ccy : ByteArray) (nLy : Nat) (rety : Option FieldType) (d' b : Nat) (As : List Value) (mc ms pc : Nat) (h : xH) (lv : List (Nat × Value)) (st rest : List Value) (ci N : Nat) (T : u_T) (fs : List Value) (X : String) (tgt : Nat),
    Cond.methodLink own idx y ∈ xT → xY 0 y ccy nLy rety n → decode cc pc = .ok (.invokevirtual idx, 3) → xMT V y ccy nLy rety d' (.ref b :: As) h X → h b = some (.inr (ci, fs)) → vwCl[ci]? = some (y.cls, T, N) → st = As.reverse ++ .ref b :: rest → As.length = n → d' + 1 ≤ d → nLy ≤ 11 → (rest.map fun v => v.category).sum ≤ 8 →
    xCh own hs pc X tgt → Cond.castable X X ∈ xNX → (∀ q, K mc ms h tgt lv [.ref q]) → K (mc + 1) (ms + 6) h pc lv st
/-- the contract of a method with a table of handlers -/
def xMW (V : xV) (y : MethodName) (cc : ByteArray) (nL : Nat) (ret : Option FieldType) (hs : List (Nat × Nat × Nat × Nat)) (d : Nat) (as : List Value) (h : xH) (mc ms : Nat) (post : Option Value → xH → Prop) : Prop :=
  Met V.1 y (Cond.codeWith y cc nL ret hs :: xT) (xRm d mc ms) (xPc V as h) (xQ V post) mc ms (xA V)
theorem xMW_of {V : xV} {y : MethodName} {cc : ByteArray} {nL : Nat} {ret : Option FieldType} {hs : List (Nat × Nat × Nat × Nat)} {d : Nat} {as : List Value} {h : xH} {mc ms : Nat} {post : Option Value → xH → Prop} (hy : plainName y.cls = true) (hn : (lg_sl as).length ≤ nL)
    (body : ∀ K : xK, xCtx V K cc y.cls nL d false false ret none post → xCat V K cc y.cls d hs → K mc ms h 0 (lv_args 0 as) []) : xMW V y cc nL ret hs d as h mc ms post := by
  unfold xMW Met
  refine MetFree.of_bodyS (code := cc) (maxLocals := nL) (ret := ret) hy ?_ ?_
  · intro args s m h hn
    obtain ⟨m', meth, c, h0, h1, h2, h3, h4, -, h5, h6, -⟩ := Cond.codeWith_spec (atoms_spec (ws := Cond.codeWith y cc nL ret hs :: xT) h _ List.mem_cons_self)
    cases hn.symm.trans h0
    exact ⟨meth, c, h1, h2, h3, h4, h5, h6⟩
  · intro p e s m args below meth c s₁ B hml hv _
    obtain ⟨rfl, hz, hR, hE⟩ := hv
    have hts0 := atoms_spec (ws := Cond.codeWith y cc nL ret hs :: xT) B.pre
    have hts : ∀ w ∈ xT, w.before as.toArray s = true := fun w hw => hts0 w (List.mem_cons_of_mem _ hw)
    have hlocks := B.notSynchronized
    have hown := findClass_of_methodNamed B.named
    have htab : c.exceptionTable.toList.map (fun h => (h.startPc, h.endPc, h.handlerPc, h.catchType)) = hs := by
      obtain ⟨m', meth', c', h0, h1, h2, -, -, h7, -⟩ := Cond.codeWith_spec (hts0 _ List.mem_cons_self)
      cases B.named.symm.trans h0
      cases B.method.symm.trans h1
      cases (Stand.of_body B).code.symm.trans h2
      exact h7
    let Qw : State → Prop := MQ below (xQ V post) as.toArray s mc ms (xA V)
    have C : xCtx V (xX V false p e (xRm d mc ms) s m as.toArray below meth c nL Qw) cc y.cls nL d false false ret none post := by
      refine ⟨⟨p, e, xRm d mc ms, s, m, as.toArray, below, meth, c, _, ⟨B.exec, B.bytes, hml, hown, hts, hE, hz, Nat.le_refl _, Nat.le_refl _⟩, fun q => (nomatch q), fun b L xs q => (nomatch q), rfl⟩, ?_⟩
      intro mc' ms' h' pc lv st v hr hp
      intro H locs cells slots ls hR hS hG hmc hms hl
      have h1 : cells ≤ mc := by have : cells + mc' ≤ mc := hmc; omega
      have h2 : slots ≤ ms := by have : slots + ms' ≤ ms := hms; omega
      refine W.widen h1 h2 ?_
      rcases hr with ⟨hd, hr0, rfl, rfl⟩ | ⟨hd, ty, x, hr0, hn0, rfl, rfl⟩ | ⟨hd, x, hr0, rfl, rfl⟩ | ⟨hd, n, u, hr0, hu, rfl, rfl⟩
      · exact W.vret B.exec B.bytes (B.returns.trans hr0) (fun t ht hW => ⟨⟨none, h', rfl, hp, by rw [ht]; exact hR⟩, hS.F ht⟩) hS.2.2 hd
      · exact W.zret B.exec B.bytes (B.returns.trans hr0) hn0 (fun t ht hW => ⟨⟨some (.int x), h', rfl, hp, by rw [ht]; exact hR⟩, hS.F ht⟩) hS.2.2 hd
      · exact W.lret B.exec B.bytes (B.returns.trans hr0) (fun t ht hW => ⟨⟨some (.long x), h', rfl, hp, by rw [ht]; exact hR⟩, hS.F ht⟩) hS.2.2 hd
      · exact W.aret B.exec B.bytes (B.returns.trans hr0) (Or.inl ⟨n, rfl⟩) hu (fun t ht hW => ⟨⟨some u, h', rfl, hp, by rw [ht]; exact hR⟩, hS.F ht⟩) hS.2.2 hd
    have hcat : xCat V (xX V false p e (xRm d mc ms) s m as.toArray below meth c nL Qw) cc y.cls d hs := by
      intro idx n y9 ccy nLy rety d' b As mc9 ms9 pc h9 lv st rest ci N T fs X tgt hwl hw hd hM hq hc hst hn9 hd' hnl h8 hch hcs kk
      intro H locs cells slots ls hR9 hS hG hmc hms hl
      subst hst
      obtain ⟨hwc, hwi, hwm, hwn, hw0, -, -⟩ := hw
      obtain ⟨hw3, hw4⟩ := hw0 rfl
      have hrm : (xRm d' 1 6).frames + 1 ≤ (xRm d mc ms).frames ∧ 8 + (nLy + 11) + (xRm d' 1 6).locals ≤ (xRm d mc ms).locals := ⟨by show d' + 1 ≤ d; omega, by show 8 + (nLy + 11) + 30 * d' ≤ 30 * d; omega⟩
      have cw := callB_of (R := xRm d mc ms) n hts (xGood hwc) (rm := xRm d' 1 6) rfl rfl rfl (hts _ hwi) (hts _ hwl) ⟨hwm.1, hwm.2, hwn⟩ hrm
      obtain ⟨-, -, -, -, hws, -, -, -, -, hlen, -⟩ := cw
      intro T9 hT X9
      obtain ⟨L, f9, j, hLf, hP, hD, haL, hfa, hj⟩ := hR9.pos hq
      obtain ⟨cellB, hcB, hoB, hclB⟩ := va_recv hE.1 hP hc hj
      obtain ⟨mk, methM, hnamed, hmethM, hstM, habM⟩ := Cond.instanceMethod_spec (hts _ hw3)
      obtain ⟨methM', cM, hmethM', hcM, -, hlM, -, -, -, hsigM⟩ := Cond.code_spec hnamed (hts _ hwc)
      cases hmethM.symm.trans hmethM'
      obtain ⟨c2, r2, m2, q1, q2, q3, q4, kP, hkP, hkPi⟩ := Cond.selects_spec (hts _ hw4)
      cases hclB.symm.trans q1
      cases (State.methodFound?_of_named hnamed hwm).symm.trans q2
      cases hnamed.symm.trans q3
      have hselP : selectMethod e.platform s.vm cellB.cls mk = .method mk := by rw [Launch.admits_selectMethod X9.admits]; exact q4
      obtain ⟨vm₁, X₁, hstep₁⟩ := X9.invokevirtual B.exec hown (hts _ hwl) hnamed hmethM hstM hkP hkPi hwm (a := b) (cell := cellB) (by rw [hT]; exact hcB) (fun z h => by rw [h] at hoB; cases hoB) hselP hmethM habM hkP hkPi
        (g := F0 m pc ls (As.reverse ++ .ref b :: rest)) rfl (argsL := As) (rest := rest) (hn9.trans (hlen _ hsigM)) rfl (by rw [B.bytes]; exact hd)
      have hn1 := X₁.named hnamed
      obtain ⟨kY, hkY, -⟩ := className_of_methodNamed hn1
      have hinitY : kY.init = .initialized := Cond.initialized_spec (findClass_of_methodNamed hn1) hkY (word_at (a' := #[]) (U := T9.setVm vm₁) X₁.warmed (Or.inl (by first | rfl | simp [Cond.onTables, Cond.keeps, Cond.steady])) (hts _ hwi))
      have hmY : (T9.setVm vm₁).vm.method? mk = some methM := by rw [X₁.warmed.alike.method?]; exact hmethM
      have h6 : 2 * (F0 m pc ls rest).monitorRoom + ((F0 m pc ls rest).stack.map fun v => v.category).sum ≤ 8 := lv_room (st := rest) h8
      have hroom : 2 * (F0 m pc ls rest).monitorRoom + ((F0 m pc ls rest).stack.map fun v => v.category).sum + (cM.maxLocals + 11) + (xRm d' 1 6).locals ≤ (xRm d mc ms).locals := by
        rw [hlM]
        have h7 := hrm.2
        omega
      have happ : (headSpec (Cond.code y9 ccy nLy rety :: xT) (xRm d' 1 6)).appliesLoose y9 e.platform ((T9.setVm vm₁).calling (F0 m pc ls rest) mk (Value.ref b :: As).toArray) = true :=
        Spec.appliesLoose_calling (g := F0 m pc ls rest) (c := c) (below := below) X₁.here (by rw [B.bytes]; exact hd) hn1 hkY hinitY
          (X₁.room_calling (g := F0 m pc ls rest) (R' := xRm d' 1 6) (hl.1.trans hml.symm) hmY hcM hrm.1 hroom (by show cells + 1 ≤ mc; have : cells + (mc9 + 1) ≤ mc := hmc; omega) (by show slots + 6 ≤ ms; have : slots + (ms9 + 6) ≤ ms := hms; omega))
          (atoms_intro fun w hw => hws w hw _ _ X₁.warmed)
      obtain ⟨mid, hmid⟩ := X₁.here.above
      have hfr : ((T9.setVm vm₁).setTop (F0 m pc ls rest)).frames = (.java (F0 m pc ls rest) :: mid) ++ below := by rw [State.frames_setTop' _ X₁.here.top, hmid]; rfl
      have hPc : xPc V (.ref b :: As) h9 (Value.ref b :: As).toArray ((T9.setVm vm₁).calling (F0 m pc ls rest) mk (Value.ref b :: As).toArray) := xPc.blind _ _ _ _ ⟨rfl, by show V.2.2.2 ≤ T9.heap.size; rw [hT]; exact Nat.le_trans hz hS.1, by show xRep V h9 T9.heap; rw [hT]; exact hR9, xE.moved X₁.warmed (fun q k1 k2 => by show T9.heap[q]? = _; rw [hT]; exact hS.2.1 q k1 k2) hE⟩
      obtain ⟨o, s₂, hsteps, -, hend, hq9⟩ := Steps.callFree hM p X₁.admits X₁.cas X₁.clock (acts := []) hfr happ hPc trivial
      obtain ⟨q, ce, rfl, hW2, hsame, hce, hqn, hcv, hcX⟩ := hq9
      rw [State.frames_setTop' _ X₁.here.top, X₁.tail] at hend
      obtain ⟨T', X', hW', hB, ht⟩ := X₁.outOfThrown (g := F0 m pc ls rest) rfl hend hW2 hsame
      obtain ⟨hz1, hk1⟩ := x_same hB
      have hheap : s₂.heap = T'.heap := by rw [ht]; rfl
      have hce' : T'.heap[q]? = some ce := by rw [← hheap]; exact hce
      have hX0 : s.vm.findClass X = some ce.cls := by rw [← X₁.warmed.alike.findClass]; exact hcX
      have hpl : e.platform.magicAccessors = ({} : Platform).magicAccessors := by rw [X9.admits.platform]
      obtain ⟨c3, cT, hc3, hcT, hasg⟩ := Cond.castable_spec (hE.2.2.2.2.2.1 _ hcs)
      cases hX0.symm.trans hc3
      cases hX0.symm.trans hcT
      have hk0 : ∃ k, s.vm.classes[ce.cls]? = some k := Vm.classAt_of_findClass hX0
      obtain ⟨vm', hWv, hF⟩ := xFnd_of (e := e) (s₀ := s) (args := as.toArray) (f := F0 m pc ls rest) (a := q) (cell := ce) (own := y.cls) (X := X) (tgt := tgt) hpl hown hts hE.2.2.2.2.2.2.1 hX0 hasg (fun k hk => by rw [hcv] at hk; cases hk) hk0 c.exceptionTable.toList ((T'.setTop (F0 m pc ls rest)).pushFrame (.throwing q)) X'.warmed hce' (by rw [htab]; exact hch)
      have hH : H.size ≤ T'.heap.size ∧ ∀ r, r < H.size → T'.heap[r]? = H[r]? := by
        refine ⟨by rw [← hT]; exact hz1, fun r hr => ?_⟩
        have h5 : (T'.setVm (T9.setVm vm₁).vm).heap[r]? = (T9.setVm vm₁).heap[r]? := hk1 r (by show r < T9.heap.size; rw [hT]; exact hr)
        rw [← hT]
        exact h5
      have hR' : xRep V h9 T'.heap := by
        obtain ⟨L1, f1, r1, r2, r3⟩ := hR9
        exact ⟨L1, f1, r1, r2.kept (fun k q9 hk => hH.2 _ (r2 k q9 hk).lt), r3⟩
      have hS' : va_S (xA V) s.heap T'.heap locs := ⟨Nat.le_trans hS.1 hH.1, fun r r1 r2 => by rw [hH.2 r (Nat.lt_of_lt_of_le r1 hS.1)]; exact hS.2.1 r r1 r2, hS.2.2⟩
      rw [List.append_nil] at X'
      have X'' := X'.noted hWv
      obtain ⟨t, a1, b1⟩ := kk q T'.heap locs (cells + 1) (slots + 6) ls hR' hS' (fun q => nomatch q) (by show cells + 1 + mc9 ≤ mc; have : cells + (mc9 + 1) ≤ mc := hmc; omega) (by show slots + 6 + ms9 ≤ ms; have : slots + (ms9 + 6) ≤ ms := hms; omega) hl (T'.setVm vm') rfl X''
      refine ⟨t, hstep₁ _ (fun acts => ?_), b1⟩
      rw [doInvoke_state]
      refine hsteps.trans ?_
      rw [ht]
      exact x_caught (g := F0 m pc ls rest) X'.here X'.method' X'.code hF a1
    have hh0 : s₁.heap = s.heap := by rw [B.state]; rfl
    have hl := lv_entry as (n := nL) hn
    have hgo := body _ C hcat s.heap [] 0 0 _ hR va_S.rf (fun q => nomatch q) (by show 0 + mc ≤ mc; omega) (by show 0 + ms ≤ ms; omega) hl s₁ hh0 (Stand.of_body B)
    obtain ⟨t, a1, o, b1, b2, b3⟩ := hgo
    rw [← lg_entry_eq] at a1
    exact ⟨t, o, a1, b1, b2, ⟨b3.1, b3.2⟩⟩
