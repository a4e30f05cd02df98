/-! THROWS: methods that touch nothing, and methods that throw -/
def xQ0 (post : Option Value → Prop) : Array Value → State → Outcome → State → Prop := fun _ st oc t => ∃ v, oc = .returned v ∧ post v ∧ t.heap = st.heap
/-- a method that touches nothing: the heap stays as it is -/
def xM0 (V : xV) (y : MethodName) (cc : ByteArray) (nL : Nat) (ret : Option FieldType) (d : Nat) (as : List Value) (h : xH) (post : Option Value → Prop) : Prop :=
  Met V.1 y (Cond.code y cc nL ret :: xT) (xRm d 0 0) (xPc V as h) (xQ0 post) 0 0 (fun _ => False)
theorem xM0_of {V : xV} {y : MethodName} {cc : ByteArray} {nL : Nat} {ret : Option FieldType} {d : Nat} {as : List Value} {h : xH} {post : Option Value → Prop} (hy : plainName y.cls = true) (hn : (lg_sl as).length ≤ nL)
    (body : ∀ K : xK, xCtx V K cc y.cls nL d true false ret none (fun v _ => post v) → K 0 0 h 0 (lv_args 0 as) []) : xM0 V y cc nL ret d as h post := by
  refine Met.ofW (cc := cc) (maxL := nL) (ret := ret) hy rfl ?_
  intro p e s m args below meth c s₁ B hml hv
  obtain ⟨rfl, hz, hR, hE⟩ := hv
  have hts := atoms_spec (ws := Cond.code y cc nL ret :: xT) B.pre
  have hlocks := B.notSynchronized
  have C : xCtx V (xX V true p e (xRm d 0 0) s m as.toArray below meth c nL (MQ below (xQ0 post) as.toArray s 0 0 (fun _ => False))) cc y.cls nL d true false ret none (fun v _ => post v) := by
    refine ⟨⟨p, e, xRm d 0 0, s, m, as.toArray, below, meth, c, _, ⟨B.exec, B.bytes, hml, findClass_of_methodNamed B.named, fun w hw => hts w (List.mem_cons_of_mem _ hw), hE, hz, Nat.le_refl _, Nat.le_refl _⟩, fun q => (nomatch q), fun b L xs q => (nomatch q), rfl⟩, ?_⟩
    intro mc' ms' h' pc lv st v hr hp
    intro H locs cells slots ls hR hS hG hmc hms hl
    have h1 : cells ≤ 0 := by have : cells + mc' ≤ 0 := hmc; omega
    have h2 : slots ≤ 0 := by have : slots + ms' ≤ 0 := hms; omega
    obtain ⟨g1, g2⟩ := hG rfl
    refine W.widen h1 h2 ?_
    have hf : ∀ q ∈ locs, (fun _ : Addr => False) q.base := by rw [g2]; exact fun q hq => absurd hq List.not_mem_nil
    rcases hr with ⟨hd, hr0, rfl, rfl⟩ | ⟨hd, ty, x, hr0, hn0, rfl, rfl⟩ | ⟨hd, x, hr0, rfl, rfl⟩ | ⟨hd, n, u, hr0, hu, rfl, rfl⟩
    · exact W.vret B.exec B.bytes (B.returns.trans hr0) (fun t ht hW => ⟨none, rfl, hp, by rw [ht, g1]⟩) hf hd
    · exact W.zret B.exec B.bytes (B.returns.trans hr0) hn0 (fun t ht hW => ⟨some (.int x), rfl, hp, by rw [ht, g1]⟩) hf hd
    · exact W.lret B.exec B.bytes (B.returns.trans hr0) (fun t ht hW => ⟨some (.long x), rfl, hp, by rw [ht, g1]⟩) hf hd
    · exact W.aret B.exec B.bytes (B.returns.trans hr0) (Or.inl ⟨n, rfl⟩) hu (fun t ht hW => ⟨some u, rfl, hp, by rw [ht, g1]⟩) hf hd
  have hl := lv_entry as (n := nL) hn
  rw [lg_entry_eq]
  exact body _ C s.heap [] 0 0 _ hR va_S.rf (fun _ => ⟨rfl, rfl⟩) (Nat.le_refl _) (Nat.le_refl _) hl
theorem x_run0 {V : xV} {p : Program} {e : Env} {R : Room} {s : State} {m : MethodId} {args : Array Value} {below : List Frame} {meth : Method} {c : Code} {H : Heap} {locs : List Loc} {cells slots pc : Nat} {Q : State → Prop} {ls : Array Slot} {st0 rest : List Value} {a : Array Value} {Qp : Option Value → Prop}
    (hr : va_Run p V.1 e R s m args below meth c H locs cells slots 0 0 (F0 m pc ls st0) rest (xQ0 Qp a) (fun _ => False))
    (kk : ∀ (v : Option Value), Qp v → W p V.1 e R s m args below meth c H locs cells slots Q (F0 m (pc + 3) ls (v.toList ++ rest))) : W p V.1 e R s m args below meth c H locs cells slots Q (F0 m pc ls st0) := by
  intro T hT X
  obtain ⟨v, st₀, t, T', L, h0, X', hL, e1, e2, ⟨r, hv, hp, hb⟩, st⟩ := hr T hT X
  cases hv
  have hnil : L = [] := List.eq_nil_iff_forall_not_mem.mpr (fun q hq => hL q hq)
  subst hnil
  rw [List.append_nil] at X'
  obtain ⟨t2, a1, b1⟩ := kk v hp T' (by rw [e1, hb, h0]) X'
  exact ⟨t2, st t2 a1, b1⟩
section XC0
variable {V : xV} {K : xK} {cc : ByteArray} {own : String} {nL d : Nat} {pu ini : Bool} {ret : Option FieldType} {sc : xS} {post : Option Value → xH → Prop} {mc ms pc : Nat} {h : xH} {lv : List (Nat × Value)} {st rest : List Value}
variable {idx n : Nat} {y : MethodName} {ccy : ByteArray} {nLy : Nat} {rety : Option FieldType} {d' b : Nat} {As : List Value} {Qp : Option Value → Prop}
theorem x_callV0 {ci N : Nat} {T : u_T} {fs : List Value} (C : xCtx V K cc own nL d pu ini ret sc post) (hwl : xLk own idx y) (hw : xY 0 y ccy nLy rety n) (hd : decode cc pc = .ok (.invokevirtual idx, 3)) (hM : xM0 V y ccy nLy rety d' (.ref b :: As) h Qp) (hq : h b = some (.inr (ci, fs))) (hc : vwCl[ci]? = some (y.cls, T, N)) (hst : st = As.reverse ++ .ref b :: rest) (hn : As.length = n) (hd' : d' + 1 ≤ d) (hnl : nLy ≤ 11) (h8 : (rest.map fun v => v.category).sum ≤ 8)
    (kk : ∀ (v : Option Value), Qp v → K mc ms h (pc + 3) lv (v.toList ++ rest)) : K mc ms h pc lv st := by
  obtain ⟨⟨p, e, R, s, m, args, below, meth, c, Q, ⟨hx, hb, hml, hown, hts, hE, hz, hdF, hdL⟩, hin, hsc, rfl⟩, -⟩ := C
  intro H locs cells slots ls hR hS hG hmc hms hl
  subst hst
  obtain ⟨hwc, hwi, hwm, hwn, hw0, hw1, hw2⟩ := hw
  have hrm : (xRm d' 0 0).frames + 1 ≤ R.frames ∧ 8 + (nLy + 11) + (xRm d' 0 0).locals ≤ R.locals := ⟨by show d' + 1 ≤ R.frames; omega, by show 8 + (nLy + 11) + 30 * d' ≤ R.locals; omega⟩
  have hbud : cells + 0 ≤ R.cells ∧ slots + 0 ≤ R.slots := ⟨by omega, by omega⟩
  obtain ⟨L, f9, j, hLf, hP, hD, haL, hfa, hj⟩ := hR.pos hq
  have hrc := va_recv hE.1 hP hc hj
  obtain ⟨hw3, hw4⟩ := hw0 rfl
  rcases hwl with hwl | ⟨host, hwl⟩
  · refine x_run0 (V := V) (va_runV (cc := cc) (nL := nL) (own := own) (Ts := xT) (C := y.cls) (b := b) (As := As) (rest := rest) (g := F0 m pc ls (As.reverse ++ .ref b :: rest)) ⟨hx, hb, hml, hown, hts⟩ hM ⟨callB_of n hts (xGood hwc) rfl rfl rfl (hts _ hwi) (hts _ hwl) ⟨hwm.1, hwm.2, hwn⟩ hrm, hts _ hw3, hts _ hw4⟩ ⟨xPc.blind, hrc, fun U hU hW => ⟨rfl, by rw [hU]; exact Nat.le_trans hz hS.1, by rw [hU]; exact hR, xE.moved hW (fun q h1 h2 => by rw [hU]; exact hS.2.1 q h1 h2) hE⟩⟩ rfl hn hl.1 rfl (lv_room h8) hd hbud) (fun v hq => ?_)
    exact kk v hq H locs cells slots ls hR hS hG hmc hms hl
  · refine x_run0 (V := V) (va_runVN (cc := cc) (nL := nL) (own := own) (Ts := xT) (C := y.cls) (b := b) (As := As) (rest := rest) (g := F0 m pc ls (As.reverse ++ .ref b :: rest)) ⟨hx, hb, hml, hown, hts⟩ hM ⟨va_cnB n hts (xGood hwc) rfl rfl rfl (hE.2.1 _ hwl) (hts _ hwi) ⟨hwm.1, hwm.2, hwn⟩ hrm, hts _ hw3, hts _ hw4⟩ ⟨xPc.blind, hrc, fun U hU hW => ⟨rfl, by rw [hU]; exact Nat.le_trans hz hS.1, by rw [hU]; exact hR, xE.moved hW (fun q h1 h2 => by rw [hU]; exact hS.2.1 q h1 h2) hE⟩⟩ rfl hn hl.1 rfl (lv_room h8) hd hbud) (fun v hq => ?_)
    exact kk v hq H locs cells slots ls hR hS hG hmc hms hl
theorem x_callS0 (C : xCtx V K cc own nL d pu ini ret sc post) (hwl : xLk own idx y) (hw : xY 2 y ccy nLy rety n) (hd : decode cc pc = .ok (.invokestatic idx, 3)) (hM : xM0 V y ccy nLy rety d' As h Qp) (hst : st = As.reverse ++ rest) (hn : As.length = n) (hd' : d' + 1 ≤ d) (hnl : nLy ≤ 11) (h8 : (rest.map fun v => v.category).sum ≤ 8)
    (kk : ∀ (v : Option Value), Qp v → K mc ms h (pc + 3) lv (v.toList ++ rest)) : K mc ms h pc lv st := by
  obtain ⟨⟨p, e, R, s, m, args, below, meth, c, Q, ⟨hx, hb, hml, hown, hts, hE, hz, hdF, hdL⟩, hin, hsc, rfl⟩, -⟩ := C
  intro H locs cells slots ls hR hS hG hmc hms hl
  subst hst
  obtain ⟨hwc, hwi, hwm, hwn, hw0, hw1, hw2⟩ := hw
  have hrm : (xRm d' 0 0).frames + 1 ≤ R.frames ∧ 8 + (nLy + 11) + (xRm d' 0 0).locals ≤ R.locals := ⟨by show d' + 1 ≤ R.frames; omega, by show 8 + (nLy + 11) + 30 * d' ≤ R.locals; omega⟩
  have hbud : cells + 0 ≤ R.cells ∧ slots + 0 ≤ R.slots := ⟨by omega, by omega⟩
  have hw3 := hw2 rfl
  rcases hwl with hwl | ⟨host, hwl⟩
  · refine x_run0 (V := V) (va_runS (cc := cc) (nL := nL) (own := own) (Ts := xT) (As := As) (rest := rest) (g := F0 m pc ls (As.reverse ++ rest)) ⟨hx, hb, hml, hown, hts⟩ hM ⟨callB_of n hts (xGood hwc) rfl rfl rfl (hts _ hwi) (hts _ hwl) ⟨hwm.1, hwm.2, hwn⟩ hrm, hts _ hw3⟩ ⟨xPc.blind, fun U hU hW => ⟨rfl, by rw [hU]; exact Nat.le_trans hz hS.1, by rw [hU]; exact hR, xE.moved hW (fun q h1 h2 => by rw [hU]; exact hS.2.1 q h1 h2) hE⟩⟩ rfl hn hl.1 rfl (lv_room h8) hd hbud) (fun v hq => ?_)
    exact kk v hq H locs cells slots ls hR hS hG hmc hms hl
  · refine x_run0 (V := V) (va_runSN (cc := cc) (nL := nL) (own := own) (Ts := xT) (As := As) (rest := rest) (g := F0 m pc ls (As.reverse ++ rest)) ⟨hx, hb, hml, hown, hts⟩ hM ⟨va_cnB n hts (xGood hwc) rfl rfl rfl (hE.2.1 _ hwl) (hts _ hwi) ⟨hwm.1, hwm.2, hwn⟩ hrm, hts _ hw3, trivial⟩ ⟨xPc.blind, fun U hU hW => ⟨rfl, by rw [hU]; exact Nat.le_trans hz hS.1, by rw [hU]; exact hR, xE.moved hW (fun q h1 h2 => by rw [hU]; exact hS.2.1 q h1 h2) hE⟩⟩ rfl hn hl.1 rfl (lv_room h8) hd hbud) (fun v hq => ?_)
    exact kk v hq H locs cells slots ls hR hS hG hmc hms hl
end XC0
