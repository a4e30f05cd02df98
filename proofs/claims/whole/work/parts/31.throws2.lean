/-! THROWS: the throw itself -/
def xNm : List String := ["java/lang/RuntimeException", "java/lang/Exception"]
theorem xLS.lays {V : xV} {n d : String} {s : State} {args : Array Value} (h : xLS V n d s) : (Cond.laysStatic "java/lang/Throwable" n d).before args s = true := by
  obtain ⟨c, k, i, f, a, cell, v, h1, h2, h3, h4, h5, h6, h7, h8, h9, h10, h11, h12⟩ := h
  simp only [Cond.before, Cond.holds, Cond.value, h1, h2, h4, Option.bind_some, h5, Option.map_some]
  simp [h3, h6, h7, h8, h9]
theorem xLS.ref {V : xV} {n d : String} {s : State} {args : Array Value} (h : xLS V n d s) : (Cond.isRef (.static "java/lang/Throwable" n d)).before args s = true := by
  obtain ⟨c, k, i, f, a, cell, v, h1, h2, h3, h4, h5, h6, h7, h8, h9, h10, h11, h12⟩ := h
  have e : (Term.static "java/lang/Throwable" n d).eval args s none [] s = some v := by
    simp [Term.eval, State.fieldNamed?, h2, h3, h4, h5, h6, h10]
  simp only [Cond.before, Cond.holds, Cond.value, e]
  cases v <;> simp [Value.isRef] at h11 ⊢
def xls (w : Cond) : Bool := decide (w = .laysStatic "java/lang/Throwable" "UNASSIGNED_STACK" "[Ljava/lang/StackTraceElement;") || (decide (w = .laysStatic "java/lang/Throwable" "SUPPRESSED_SENTINEL" "Ljava/util/List;") || (decide (w = .isRef (.static "java/lang/Throwable" "UNASSIGNED_STACK" "[Ljava/lang/StackTraceElement;")) || decide (w = .isRef (.static "java/lang/Throwable" "SUPPRESSED_SENTINEL" "Ljava/util/List;"))))
/-- all words that the throw of an X asks are at hand -/
def xOwB (own : String) (ic : Nat) (X : String) : Bool := (Bundle.ownAtoms own ic X xNm).all (fun w => (decide (w ∈ lw_tbl) && (goodWord w || xnx w)) || xls w)
theorem xOw_use {V : xV} {own X : String} {ic : Nat} {s : State} {args : Array Value} (hb : xOwB own ic X = true) (hts : ∀ w ∈ xT, w.before args s = true) (hF : xF V s) : ∀ w ∈ Bundle.ownAtoms own ic X xNm, w.before args s = true := by
  intro w hw
  have h := List.all_eq_true.mp hb w hw
  rcases (Bool.or_eq_true _ _).mp h with h | h
  · obtain ⟨h1, h2⟩ := (Bool.and_eq_true _ _).mp h
    rcases (Bool.or_eq_true _ _).mp h2 with h2 | h2
    · exact hts w (List.mem_filter.mpr ⟨of_decide_eq_true h1, h2⟩)
    · have h3 := hF.2.1 w (List.mem_filter.mpr ⟨of_decide_eq_true h1, h2⟩)
      cases w <;> first | exact va_Nw.use rfl h3 | (simp [xnx] at h2)
  · rcases (Bool.or_eq_true _ _).mp h with h | h
    · rw [of_decide_eq_true h]; exact hF.2.2.2.2.1.lays
    · rcases (Bool.or_eq_true _ _).mp h with h | h
      · rw [of_decide_eq_true h]; exact hF.2.2.2.2.2.lays
      · rcases (Bool.or_eq_true _ _).mp h with h | h
        · rw [of_decide_eq_true h]; exact hF.2.2.2.2.1.ref
        · rw [of_decide_eq_true h]; exact hF.2.2.2.2.2.ref
/-- where an X is thrown: new, dup, ldc, invokespecial, athrow -/
def xSite (cc : ByteArray) (own X : String) (pc : Nat) : Prop := ∃ (iN iM ic : Nat) (tx : String), decode cc pc = .ok (.new iN, 3) ∧ decode cc (pc + 3) = .ok (.dup, 1) ∧ decode cc (pc + 3 + 1) = .ok (.ldc iM, 2) ∧ decode cc (pc + 3 + 1 + 2) = .ok (.invokespecial ic, 3) ∧ decode cc (pc + 3 + 1 + 2 + 3) = .ok (.athrow, 1) ∧ own = "CursorBase" ∧ (iM, tx) ∈ xTx ∧ Cond.classLink own iN X ∈ xT ∧ Cond.instantiable X 6 ∈ xT ∧ Cond.initialized X ∈ xT ∧ Bundle.fit X = true ∧ xOwB own ic X = true
def xQT (X : String) : Array Value → State → Outcome → State → Prop := fun _ st oc t => ∃ q ce, oc = .threw q ∧ st.WarmedH t.vm ∧ st.sameButNew ({ t with vm := st.vm } : State) [] 1 6 ∧ t.heap[q]? = some ce ∧ st.heap.size ≤ q ∧ ce.vm = .none ∧ st.vm.findClass X = some ce.cls
/-- method y, from arguments 'as' and the view h, throws an X and leaves all as it is -/
def xMT (V : xV) (y : MethodName) (cc : ByteArray) (nL : Nat) (ret : Option FieldType) (d : Nat) (as : List Value) (h : xH) (X : String) : Prop :=
  MetFree V.1 y (headSpec (Cond.code y cc nL ret :: xT) (xRm d 1 6)) (xPc V as h) (fun _ _ _ _ _ => True) (xQT X)
theorem xMT_of {V : xV} {y : MethodName} {cc : ByteArray} {nL : Nat} {ret : Option FieldType} {d : Nat} {as : List Value} {h : xH} {X : String} (hy : plainName y.cls = true) (hn : (lg_sl as).length ≤ nL) (hd6 : 6 ≤ d)
    (body : ∀ K : xK, xCtx V K cc y.cls nL d true false ret none (fun _ _ => False) → (∀ pc lv, xSite cc y.cls X pc → K 1 6 h pc lv []) → K 1 6 h 0 (lv_args 0 as) []) : xMT V y cc nL ret d as h X := by
  refine MetFree.of_bodyS (code := cc) (maxLocals := nL) (ret := ret) hy ?_ ?_
  · intro args s m h hn
    obtain ⟨meth, c, h1, h2, h3, h4, h5, h6, -, -⟩ := Cond.code_spec hn (atoms_spec (ws := Cond.code y cc nL ret :: xT) h _ List.mem_cons_self)
    exact ⟨meth, c, h1, h2, h3, h4, h5, h6⟩
  · intro p e s m args below meth c s₁ B hml hv _
    obtain ⟨rfl, hz, hR, hE⟩ := hv
    have hts := atoms_spec (ws := Cond.code y cc nL ret :: xT) B.pre
    have hts' : ∀ w ∈ xT, w.before as.toArray s = true := fun w hw => hts w (List.mem_cons_of_mem _ hw)
    have hlocks := B.notSynchronized
    have hown := findClass_of_methodNamed B.named
    have hnoh : c.exceptionTable.isEmpty = true := BodyLoose.noHandlers B (hts _ List.mem_cons_self)
    let Qw : State → Prop := fun t => ∃ o, t.status = .running ∧ Ended t below o ∧ xQT X as.toArray s o t
    have C : xCtx V (xX V true p e (xRm d 1 6) s m as.toArray below meth c nL Qw) cc y.cls nL d true false ret none (fun _ _ => False) :=
      ⟨⟨p, e, xRm d 1 6, s, m, as.toArray, below, meth, c, Qw, ⟨B.exec, B.bytes, hml, hown, hts', hE, hz, Nat.le_refl _, Nat.le_refl _⟩, fun q => (nomatch q), fun b L xs q => (nomatch q), rfl⟩, fun mc' ms' h' pc lv st v hr hp => hp.elim⟩
    have hT : ∀ pc lv, xSite cc y.cls X pc → xX V true p e (xRm d 1 6) s m as.toArray below meth c nL Qw 1 6 h pc lv [] := by
      intro pc lv ⟨iN, iM, ic, tx, hd1, hd2, hd3, hd4, hd5, how, hmx, hcl, hin, hini, hfit, hob⟩
      intro H locs cells slots ls hR9 hS hG hmc hms hl
      obtain ⟨g1, g2⟩ := hG rfl
      subst g1; subst g2
      have hc0 : cells = 0 := by have : cells + 1 ≤ 1 := hmc; omega
      have hs0 : slots = 0 := by have : slots + 6 ≤ 6 := hms; omega
      subst hc0; subst hs0
      obtain ⟨qm, hqm⟩ := hE.2.2.2.2.2.2.2.1 (iM, tx) hmx
      refine W.newc B.exec B.bytes hown (hts' _ hcl) (hts' _ hin) (hts' _ hini) (g := F0 m pc ls []) rfl hd1 (by show 0 + 1 ≤ 1; omega) (by show 0 + 6 ≤ 6; omega) (fun cC kC k1 k2 k3 k4 => ?_)
      refine lv_dup B.exec B.bytes (pc := pc + 3) hd2 rfl ?_
      refine va_ldcS B.exec B.bytes (pc := pc + 3 + 1) (own := y.cls) hown (by rw [how]; exact hqm) hd3 ?_
      intro T hTh X9
      obtain ⟨U, st, hrun, hend, hW, hsame, ce, hce, hOC⟩ := X9.ctorThrowS (own := y.cls) (cls := X) (names := xNm) (ic := ic) B.exec (by rw [X9.admits.platform]; exact hE.2.2.2.2.1) hown hfit (by decide) (xOw_use hob hts' hE.2.2.2.2) (fun x hx => absurd hx List.not_mem_nil)
        (a := s.heap.size) (cX := cC) (kX := kC) k1 k2 (by rw [hTh]; simp) (Nat.le_refl _) (msg := .ref qm) rfl (g := F0 m (pc + 3 + 1 + 2) ls [.ref qm, .ref s.heap.size, .ref s.heap.size]) rfl (hl.1.trans hml.symm) rfl rfl (rest := []) rfl (by rw [B.bytes]; exact hd4) (by rw [B.bytes]; exact hd5)
        (fun x hx => by rw [Array.toList_eq_nil_iff.mpr (Array.isEmpty_iff.mp hnoh)] at hx; exact absurd hx List.not_mem_nil) (by show 2 + 3 < d; omega) (by show 2 * 0 + 1 + (13 * (2 + 1) + 42) ≤ 30 * d; omega) hlocks
      exact ⟨U, st, .threw s.heap.size, hrun, hend, s.heap.size, ce, rfl, hW, hsame, hce, Nat.le_refl _, hOC.vm, hOC.cls⟩
    have hh0 : s₁.heap = s.heap := by rw [B.state]; rfl
    have hl := lv_entry as (n := nL) hn
    have hgo := body _ C hT s.heap [] 0 0 _ hR va_S.rf (fun _ => ⟨rfl, rfl⟩) (Nat.le_refl _) (Nat.le_refl _) hl s₁ hh0 (Stand.of_body B)
    obtain ⟨t, a1, o, b1, b2, b3⟩ := hgo
    rw [← lg_entry_eq] at a1
    exact ⟨t, o, a1, b1, b2, b3⟩
