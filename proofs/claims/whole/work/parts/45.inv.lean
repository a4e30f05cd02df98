/-! THE INVARIANT: what the class holds and what the reference holds. Addresses A: 0 the object, 1 tokens, 2 kinds, 3 numbers, 4 tables, 5 cells, 6 columns, 7 starts, 8 run, 9 read; 10 the reference, 11 columns, 12 of, 13 cells, 14 kinds, 15 numbers, 16 hadKinds, 17 hadNumbers; 18 out -/
abbrev LC (A : Nat → Nat) : List Nat := [A 0, A 1, A 2, A 3, A 4, A 5, A 6, A 7, A 8, A 9]
abbrev LM (A : Nat → Nat) : List Nat := [A 10, A 11, A 12, A 13, A 14, A 15, A 16, A 17, A 18]
def iCl (V : xV) (A : Nat → Nat) (h : xH) (ks ns : Nat → Int32) (n : Nat) (f c s : Nat → Int32) (SS : Nat → Nat) (st : Value) (gv on en fp sp : Int32) (tt : Int64) (g : Nat → Int32) : Prop :=
  h (A 0) = some (oCB (A 1) (A 4) (A 8)) ∧ pTo V h (A 1) (A 2) (A 3) ks ns n ∧ pTa V h (A 4) (A 5) (A 6) (A 7) f c s ∧ h (A 8) = some (oRu st gv on en fp sp tt (A 9)) ∧ h (A 9) = some (xI V 16 g) ∧ pS s SS ∧ SS 0 = 0 ∧ colsN c
/-- the reference's references -/
def iRf (A : Nat → Nat) (fs : List Value) : Prop := fs.length = 29 ∧ fs[1]? = some (.ref (A 11)) ∧ fs[2]? = some (.ref (A 12)) ∧ fs[3]? = some (.ref (A 13)) ∧ fs[5]? = some (.ref (A 14)) ∧ fs[6]? = some (.ref (A 15)) ∧ fs[8]? = some (.ref (A 16)) ∧ fs[9]? = some (.ref (A 17))
def iMo (V : xV) (A : Nat → Nat) (h : xH) (fs : List Value) (c2 of f2 ks ns hk hn : Nat → Int32) (o : Nat → Int64) : Prop :=
  h (A 10) = some (.inr (8, fs)) ∧ h (A 11) = some (xI V 10 c2) ∧ h (A 12) = some (xI V 400 of) ∧ h (A 13) = some (xI V 2400 f2) ∧ h (A 14) = some (xI V 60 ks) ∧ h (A 15) = some (xI V 60 ns) ∧ h (A 16) = some (xI V 60 hk) ∧ h (A 17) = some (xI V 60 hn) ∧ h (A 18) = some (xJ V 1 o)
/-- all cells are apart -/
def iAp (A : Nat → Nat) : Prop := (∀ a ∈ LC A, a ∉ LM A) ∧ (A 14 ≠ A 15 ∧ A 16 ≠ A 14 ∧ A 16 ≠ A 15 ∧ A 17 ≠ A 14 ∧ A 17 ≠ A 15 ∧ A 16 ≠ A 17)
theorem iMo.keep {V : xV} {A : Nat → Nat} {h h' : xH} {M : List Nat} {fs : List Value} {c2 of f2 ks ns hk hn : Nat → Int32} {o : Nat → Int64} (i : iMo V A h fs c2 of f2 ks ns hk hn o) (ha : iAp A) (kp : xKeep M h h') (hM : ∀ q ∈ M, q ∈ LC A) : iMo V A h' fs c2 of f2 ks ns hk hn o := by
  have no : ∀ b, b ∈ LM A → b ∉ M := fun b hb hm => ha.1 b (hM b hm) hb
  obtain ⟨h1, h2, h3, h4, h5, h6, h7, h8, h9⟩ := i
  exact ⟨kp.get h1 (no _ (by simp)), kp.get h2 (no _ (by simp)), kp.get h3 (no _ (by simp)), kp.get h4 (no _ (by simp)), kp.get h5 (no _ (by simp)), kp.get h6 (no _ (by simp)), kp.get h7 (no _ (by simp)), kp.get h8 (no _ (by simp)), kp.get h9 (no _ (by simp))⟩
theorem iCl.keep {V : xV} {A : Nat → Nat} {h h' : xH} {M : List Nat} {ks ns : Nat → Int32} {n : Nat} {f c s : Nat → Int32} {SS : Nat → Nat} {st : Value} {gv on en fp sp : Int32} {tt : Int64} {g : Nat → Int32} (i : iCl V A h ks ns n f c s SS st gv on en fp sp tt g) (ha : iAp A) (kp : xKeep M h h') (hM : ∀ q ∈ M, q ∈ LM A) : iCl V A h' ks ns n f c s SS st gv on en fp sp tt g := by
  have no : ∀ b, b ∈ LC A → b ∉ M := fun b hb hm => ha.1 b hb (hM b hm)
  obtain ⟨h1, ⟨p1, p2, p3, p4, p5⟩, ⟨t1, t2, t3, t4⟩, h4, h5, h6, h7, h8⟩ := i
  exact ⟨kp.get h1 (no _ (by simp)), ⟨kp.get p1 (no _ (by simp)), kp.get p2 (no _ (by simp)), kp.get p3 (no _ (by simp)), p4, p5⟩, ⟨kp.get t1 (no _ (by simp)), kp.get t2 (no _ (by simp)), kp.get t3 (no _ (by simp)), kp.get t4 (no _ (by simp))⟩, kp.get h4 (no _ (by simp)), kp.get h5 (no _ (by simp)), h6, h7, h8⟩
/-- the shapes of the cells that may change -/
def chg : va_E → Bool
  | .inr (0, _) => false
  | .inr (1, _) => false
  | .inr (4, _) => false
  | .inl (_, 6, .inl _) => false
  | .inl (_, _, .inr (.inr (.inr (.inr _)))) => false
  | _ => true
/-- what stands in cells of a statement stays -/
def xFix2 (h h' : xH) : Prop := ∀ q e, h q = some e → chg e = false → h' q = some e
theorem xFix2.ops {h h' : xH} (x : xFix2 h h') : xOps h h' := fun q e f ne => x q e f (by
  rcases e with ⟨a, b, c⟩ | ⟨a, b⟩
  · cases ne
  · match a with
    | 0 => rfl
    | 1 => rfl
    | k + 2 => cases ne)
theorem fix_of {M : List Nat} {h h' : xH} (kp : xKeep M h h') (hM : ∀ q ∈ M, ∀ e, h q = some e → chg e = true) : xFix2 h h' := fun q e f ne => kp q e f (fun hq => by rw [hM q hq e f] at ne; cases ne)
theorem fix_c {l : List Nat} {h : xH} {a : Nat} {ea : va_E} (fa : h a = some ea) (na : chg ea = true) (t : ∀ q ∈ l, ∀ e, h q = some e → chg e = true) : ∀ q ∈ a :: l, ∀ e, h q = some e → chg e = true := fun q hq e f => by
  rcases List.mem_cons.mp hq with rfl | z
  · rw [fa] at f; rw [← Option.some.inj f]; exact na
  · exact t q z e f
theorem fix_n {h : xH} : ∀ q ∈ ([] : List Nat), ∀ e, h q = some e → chg e = true := fun q hq => absurd hq List.not_mem_nil
theorem xFix2.tr {h h1 h2 : xH} (x : xFix2 h h1) (y : xFix2 h1 h2) : xFix2 h h2 := fun q e f ne => y q e (x q e f ne) ne
theorem fix_cl {V : xV} {A : Nat → Nat} {h : xH} {ks ns : Nat → Int32} {n : Nat} {f c s : Nat → Int32} {SS : Nat → Nat} {st : Value} {gv on en fp sp : Int32} {tt : Int64} {g : Nat → Int32} (i : iCl V A h ks ns n f c s SS st gv on en fp sp tt g) : ∀ q ∈ LC A, ∀ e, h q = some e → chg e = true := by
  obtain ⟨h1, ⟨p1, p2, p3, p4, p5⟩, ⟨t1, t2, t3, t4⟩, h4, h5, h6, h7, h8⟩ := i
  exact fix_c h1 rfl (fix_c p1 rfl (fix_c p2 rfl (fix_c p3 rfl (fix_c t1 rfl (fix_c t2 rfl (fix_c t3 rfl (fix_c t4 rfl (fix_c h4 rfl (fix_c h5 rfl fix_n)))))))))
theorem fix_mo {V : xV} {A : Nat → Nat} {h : xH} {fs : List Value} {c2 of f2 ks ns hk hn : Nat → Int32} {o : Nat → Int64} (i : iMo V A h fs c2 of f2 ks ns hk hn o) : ∀ q ∈ LM A, ∀ e, h q = some e → chg e = true := by
  obtain ⟨h1, h2, h3, h4, h5, h6, h7, h8, h9⟩ := i
  exact fix_c h1 rfl (fix_c h2 rfl (fix_c h3 rfl (fix_c h4 rfl (fix_c h5 rfl (fix_c h6 rfl (fix_c h7 rfl (fix_c h8 rfl (fix_c h9 rfl fix_n))))))))
/-- the statement at hand: as it was read, and where the class keeps it -/
def iSt (V : xV) (h : xH) (S : Nat) (dd : tD) (np : Nat) (po cp : Nat → Option Nat) (pick : Nat → Int32) (cf : Nat → tCd) (g0 : Nat → Int32) (nb pk cd : Nat) : Prop :=
  h S = some (oSt dd.1.1 dd.1.2.1 dd.1.2.2.1 dd.1.2.2.2.1 (bI dd.1.2.2.2.2) (nI dd.2.1) nb (nI np) pk (nI dd.2.2.2.2.1) cd) ∧ h nb = some (xI V 6 g0) ∧ h pk = some (xR V 2 12 po) ∧ h cd = some (xR V 3 8 cp) ∧ pOps h po np pick ∧ pCds h cp dd.2.2.2.2.1 cf
theorem iSt.keep {V : xV} {h h' : xH} {S : Nat} {dd : tD} {np : Nat} {po cp : Nat → Option Nat} {pick : Nat → Int32} {cf : Nat → tCd} {g0 : Nat → Int32} {nb pk cd : Nat} (i : iSt V h S dd np po cp pick cf g0 nb pk cd) (x : xFix2 h h') : iSt V h' S dd np po cp pick cf g0 nb pk cd := by
  obtain ⟨h1, h2, h3, h4, h5, h6⟩ := i
  exact ⟨x _ _ h1 rfl, x _ _ h2 rfl, x _ _ h3 rfl, x _ _ h4 rfl, h5.keep x.ops, h6.keep x.ops⟩
/-- the statement's words, pure: its tokens, the class's lists, the reference's copies, the columns of its tables -/
def iPu (dd : tD) (ks0 ns0 : Nat → Int32) (n0 : Nat) (hk hn c : Nat → Int32) (np : Nat) (pick : Nat → Int32) (cf : Nat → tCd) (g0 : Nat → Int32) (fr T : Nat) : Prop :=
  tParse ks0 ns0 n0 = some dd ∧ n0 ≤ 60 ∧ (∀ j, j < dd.2.1 → j < 6 → g0 j = ns0 (2 + j)) ∧ np ≤ 12 ∧ mFT fr T dd.2.2.2.2.2 dd.2.2.2.2.1 ∧
  (¬ dd.1.2.1 = 4 → np = dd.2.2.1 ∧ ∀ j, j < np → pick j = ns0 (dd.2.2.2.1 + j)) ∧
  (dd.1.1 = 0 → tokS ks0 ns0 n0 ∧ (∀ i, i < n0 → hk i = ks0 i ∧ hn i = ns0 i) ∧ ¬ g0 0 < 1 ∧ ¬ 6 < g0 0) ∧
  (¬ dd.1.1 = 0 → cdT ks0 ns0 hk hn n0 dd.2.2.2.2.2 dd.2.2.2.2.1 fr cf (colOf c dd.1.2.2.1) (colOf c dd.1.2.2.2.1) ∧ ¬ colOf c dd.1.2.2.1 ≤ 0 ∧ (dd.1.2.2.2.1 = -1 ∨ ¬ colOf c dd.1.2.2.2.1 ≤ 0) ∧ (∀ j, j < dd.2.2.1 → opThere 2 (ns0 (dd.2.2.2.1 + j)) (colOf c dd.1.2.2.1) (colOf c dd.1.2.2.2.1) = true) ∧ (dd.1.1 = 1 → nI dd.2.1 = colOf c dd.1.2.2.1) ∧
    (dd.1.2.1 = 4 → ∃ nf nq, colOf c dd.1.2.2.1 = nI nf ∧ colOf c dd.1.2.2.2.1 = nI nq ∧ nf ≤ 6 ∧ nq ≤ 6 ∧ np = nf + nq ∧ (∀ i, i < nf → pick i = nI i) ∧ ∀ i, i < nq → pick (nf + i) = 10 + nI i))
/-- how far a SELECT of rows is -/
def iCur (dd : tD) (f c : Nat → Int32) (SS : Nat → Nat) (of f2 : Nat → Int32) (N : Nat) (on fp sp aT bT : Int32) (g : Nat → Int32) : Prop :=
  ∃ (t1 t2 n2 i j : Nat) (p1 p2 : Nat → Nat), t1 < 10 ∧ dd.1.2.2.1 = nI t1 ∧ ((dd.1.2.2.2.1 = -1 ∧ n2 = 1) ∨ (dd.1.2.2.2.1 = nI t2 ∧ t2 < 10 ∧ n2 = SS (t2 + 1) - SS t2)) ∧ fp = nI i ∧ sp = nI j ∧ i ≤ SS (t1 + 1) - SS t1 ∧ j ≤ n2 ∧
    ordS of (fun k => f2 (k * 6)) (bI dd.1.2.2.2.2) N (nI t1) (SS (t1 + 1) - SS t1) p1 ∧ (∀ a, a < SS (t1 + 1) - SS t1 → cut (c t1) (row6 f2 (p1 a * 6)) = cut (c t1) (row6 f ((SS t1 + plc (bI dd.1.2.2.2.2) (SS (t1 + 1) - SS t1) a) * 6))) ∧
    (¬ dd.1.2.2.2.1 = -1 → ordS of (fun k => f2 (k * 6)) (bI dd.1.2.2.2.2) N (nI t2) n2 p2 ∧ ∀ b, b < n2 → cut (c t2) (row6 f2 (p2 b * 6)) = cut (c t2) (row6 f ((SS t2 + plc (bI dd.1.2.2.2.2) n2 b) * 6))) ∧
    mCur dd.1.2.2.2.1 p1 p2 (SS (t1 + 1) - SS t1) n2 i j aT bT ∧ (on = 0 ∨ (on = 1 ∧ ∃ j', j = j' + 1 ∧ agr (colOf c dd.1.2.2.1) (colOf c dd.1.2.2.2.1) g (row6 f2 (p1 i * 6)) (row6 f2 (p2 j' * 6))))
/-- how far the statement is, on both sides: state, at, beside, row, told of the reference -/
def iRun (dd : tD) (f c : Nat → Int32) (SS : Nat → Nat) (of f2 : Nat → Int32) (N : Nat) (gv on en fp sp : Int32) (tt : Int64) (g : Nat → Int32) (sta aT bT row : Int32) (told : Int64) : Prop :=
  (¬ dd.1.1 = 3 ∧ on = 0 ∧ gv = 0 ∧ (en = 0 ∨ en = 1) ∧ sta = en ∧ row = 0) ∨
  (dd.1.1 = 3 ∧ (dd.1.2.1 = 5 ∨ dd.1.2.1 = 6) ∧ ((gv = 0 ∧ on = 0 ∧ en = 0 ∧ fp = 0 ∧ sp = 0 ∧ sta = 0 ∧ row = 0) ∨ (gv = 1 ∧ on = 1 ∧ en = 0 ∧ sta = 1 ∧ row = 1 ∧ told = tt) ∨ (gv = 1 ∧ on = 0 ∧ en = 1 ∧ sta = 1 ∧ row = 0))) ∨
  (dd.1.1 = 3 ∧ ¬ (dd.1.2.1 = 5 ∨ dd.1.2.1 = 6) ∧ ((en = 1 ∧ on = 0 ∧ sta = 1 ∧ row = 0) ∨ (en = 0 ∧ sta = 0 ∧ row = on ∧ iCur dd f c SS of f2 N on fp sp aT bT g)))
/-- the fields of the reference that its statement needs -/
def iFd (fs : List Value) (dd : tD) (fr T : Nat) (gv sta aT bT row : Int32) (told : Int64) : Prop := fs[11]? = some (.int 1) ∧ fs[12]? = some (.int dd.1.2.2.1) ∧ fs[13]? = some (.int dd.1.2.2.2.1) ∧ fs[14]? = some (.int (nI fr)) ∧ fs[15]? = some (.int (nI T)) ∧ fs[16]? = some (.int (bI dd.1.2.2.2.2)) ∧ fs[17]? = some (.int sta) ∧ fs[18]? = some (.int gv) ∧ fs[19]? = some (.int aT) ∧ fs[20]? = some (.int bT) ∧ fs[21]? = some (.int row) ∧ fs[22]? = some (.long told)
/-- no statement, or the same one on both sides, equally far -/
def iSP (V : xV) (h : xH) (fs : List Value) (hk hn f c : Nat → Int32) (SS : Nat → Nat) (of f2 : Nat → Int32) (N : Nat) (st : Value) (gv on en fp sp : Int32) (tt : Int64) (g : Nat → Int32) : Prop :=
  (st = .null ∧ fs[11]? = some (.int 0) ∧ (∃ r, fs[21]? = some (.int r)) ∧ (∃ r, fs[18]? = some (.int r)) ∧ (∃ r, fs[22]? = some (.long r)) ∧ (∃ r, fs[17]? = some (.int r)) ∧ (∃ r, fs[12]? = some (.int r)) ∧ (∃ r, fs[13]? = some (.int r)) ∧ (∃ r, fs[19]? = some (.int r)) ∧ ∃ r, fs[20]? = some (.int r)) ∨
    ∃ (S np nb pk cd fr T n0 : Nat) (dd : tD) (po cp : Nat → Option Nat) (pick g0 ks0 ns0 : Nat → Int32) (cf : Nat → tCd) (sta aT bT row : Int32) (told : Int64),
      st = .ref S ∧ iSt V h S dd np po cp pick cf g0 nb pk cd ∧ iPu dd ks0 ns0 n0 hk hn c np pick cf g0 fr T ∧ iFd fs dd fr T gv sta aT bT row told ∧ iRun dd f c SS of f2 N gv on en fp sp tt g sta aT bT row told
def INV (V : xV) (A : Nat → Nat) (h : xH) : Prop :=
  ∃ (ks ns f c s g c2 of f2 hk hn : Nat → Int32) (n N : Nat) (SS : Nat → Nat) (st : Value) (gv on en fp sp : Int32) (tt : Int64) (fs : List Value) (o : Nat → Int64),
    iAp A ∧ iCl V A h ks ns n f c s SS st gv on en fp sp tt g ∧ iMo V A h fs c2 of f2 ks ns hk hn o ∧ iRf A fs ∧ fs[7]? = some (.int (nI n)) ∧ fs[4]? = some (.int (nI N)) ∧ N ≤ 400 ∧ (∀ t, t < 10 → c2 t = c t) ∧ tokS ks ns n ∧ tieR f c SS of f2 N ∧ iSP V h fs hk hn f c SS of f2 N st gv on en fp sp tt g
theorem iRf.up {A : Nat → Nat} {Ks : List Nat} {fs fs' : List Value} (i : iRf A fs) (mu : mUp Ks fs fs') (hK : ∀ k ∈ [1, 2, 3, 5, 6, 8, 9], k ∉ Ks) : iRf A fs' := by
  obtain ⟨h0, h1, h2, h3, h4, h5, h6, h7⟩ := i
  exact ⟨mu.1.trans h0, mu.get h1 (hK _ (by simp)), mu.get h2 (hK _ (by simp)), mu.get h3 (hK _ (by simp)), mu.get h4 (hK _ (by simp)), mu.get h5 (hK _ (by simp)), mu.get h6 (hK _ (by simp)), mu.get h7 (hK _ (by simp))⟩
theorem iFd.up {fs fs' : List Value} {dd : tD} {fr T : Nat} {gv sta aT bT row : Int32} {told : Int64} {Ks : List Nat} (i : iFd fs dd fr T gv sta aT bT row told) (mu : mUp Ks fs fs') (hK : ∀ k ∈ [11, 12, 13, 14, 15, 16, 17, 18, 19, 20, 21, 22], k ∉ Ks) : iFd fs' dd fr T gv sta aT bT row told := by
  obtain ⟨h1, h2, h3, h4, h5, h6, h7, h8, h9, h10, h11, h12⟩ := i
  exact ⟨mu.get h1 (hK _ (by simp)), mu.get h2 (hK _ (by simp)), mu.get h3 (hK _ (by simp)), mu.get h4 (hK _ (by simp)), mu.get h5 (hK _ (by simp)), mu.get h6 (hK _ (by simp)), mu.get h7 (hK _ (by simp)), mu.get h8 (hK _ (by simp)), mu.get h9 (hK _ (by simp)), mu.get h10 (hK _ (by simp)), mu.get h11 (hK _ (by simp)), mu.get h12 (hK _ (by simp))⟩
theorem iSP.keep {V : xV} {h h' : xH} {fs fs' : List Value} {hk hn f c : Nat → Int32} {SS : Nat → Nat} {of f2 : Nat → Int32} {N : Nat} {st : Value} {gv on en fp sp : Int32} {tt : Int64} {g : Nat → Int32} {Ks : List Nat} (i : iSP V h fs hk hn f c SS of f2 N st gv on en fp sp tt g) (x : xFix2 h h') (mu : mUp Ks fs fs') (hK : ∀ k ∈ [11, 12, 13, 14, 15, 16, 17, 18, 19, 20, 21, 22], k ∉ Ks) : iSP V h' fs' hk hn f c SS of f2 N st gv on en fp sp tt g := by
  rcases i with ⟨h1, h2, ⟨r1, h3⟩, ⟨r2, h4⟩, ⟨r3, h5⟩, ⟨r4, h6⟩, ⟨r5, h7⟩, ⟨r6, h8⟩, ⟨r7, h9⟩, ⟨r8, h10⟩⟩ | ⟨S, np, nb, pk, cd, fr, T, n0, dd, po, cp, pick, g0, ks0, ns0, cf, sta, aT, bT, row, told, h1, h2, h3, h4, h5⟩
  · exact Or.inl ⟨h1, mu.get h2 (hK _ (by simp)), ⟨r1, mu.get h3 (hK _ (by simp))⟩, ⟨r2, mu.get h4 (hK _ (by simp))⟩, ⟨r3, mu.get h5 (hK _ (by simp))⟩, ⟨r4, mu.get h6 (hK _ (by simp))⟩, ⟨r5, mu.get h7 (hK _ (by simp))⟩, ⟨r6, mu.get h8 (hK _ (by simp))⟩, ⟨r7, mu.get h9 (hK _ (by simp))⟩, ⟨r8, mu.get h10 (hK _ (by simp))⟩⟩
  · exact Or.inr ⟨S, np, nb, pk, cd, fr, T, n0, dd, po, cp, pick, g0, ks0, ns0, cf, sta, aT, bT, row, told, h1, h2.keep x, h3, h4.up mu hK, h5⟩
theorem iMo.out {V : xV} {A : Nat → Nat} {h h' : xH} {fs : List Value} {c2 of f2 ks ns hk hn : Nat → Int32} {o o' : Nat → Int64} (i : iMo V A h fs c2 of f2 ks ns hk hn o) (u : h' = va_up h (A 18) (some (xJ V 1 o'))) : iMo V A h' fs c2 of f2 ks ns hk hn o' := by
  obtain ⟨h1, h2, h3, h4, h5, h6, h7, h8, h9⟩ := i
  exact ⟨xUp_ne u h1 (x_ne h1 h9 (by simp)), xUp_ne u h2 (x_ne h2 h9 (by simp)), xUp_ne u h3 (x_ne h3 h9 (by simp)), xUp_ne u h4 (x_ne h4 h9 (by simp)), xUp_ne u h5 (x_ne h5 h9 (by simp)), xUp_ne u h6 (x_ne h6 h9 (by simp)), xUp_ne u h7 (x_ne h7 h9 (by simp)), xUp_ne u h8 (x_ne h8 h9 (by simp)), xUp_at u⟩
/-- how a call of the law through a wrapper ends: the reference's 'thrown' is the wrapper's answer, and where that is 0 both answers are the same -/
def EndI (V : xV) (A : Nat → Nat) (kk : Int32) (v : Option Value) (h2 : xH) : Prop := ∃ b : Int32, v = some (.int b) ∧ INV V A h2 ∧ (∃ fs, h2 (A 10) = some (.inr (8, fs)) ∧ fs.length = 29 ∧ fs[0]? = some (.int kk)) ∧ (kk = 0 → ∃ o, h2 (A 18) = some (xJ V 1 o) ∧ o 0 = b.toInt64)
def EndJ (V : xV) (A : Nat → Nat) (kk : Int32) (v : Option Value) (h2 : xH) : Prop := ∃ b : Int64, v = some (.long b) ∧ INV V A h2 ∧ (∃ fs, h2 (A 10) = some (.inr (8, fs)) ∧ fs.length = 29 ∧ fs[0]? = some (.int kk)) ∧ (kk = 0 → ∃ o, h2 (A 18) = some (xJ V 1 o) ∧ o 0 = b)
def PairW (V : xV) (A : Nat → Nat) (h : xH) (yL : MethodName) (bL : ByteArray) (nL : Nat) (hs : List (Nat × Nat × Nat × Nat)) (asL : List Value) (yM : MethodName) (bM : ByteArray) (nM : Nat) (ret : Option FieldType) (asM : List Value) (End : Int32 → Option Value → xH → Prop) : Prop :=
  ∃ mc' ms' Q0, mc' ≤ 1 ∧ ms' ≤ 6 ∧ xMW V yL bL nL (some .int) hs 9 asL h mc' ms' Q0 ∧ ∀ v1 h1, Q0 v1 h1 → ∃ kk, v1 = some (.int kk) ∧ (∃ fs, h1 (A 10) = some (.inr (8, fs))) ∧ ∃ d' Q, d' ≤ 8 ∧ xM V yM bM nM ret d' asM h1 0 0 Q ∧ ∀ v h2, Q v h2 → End kk v h2
/-- a call of both that is no wrapper's -/
def PairI (V : xV) (A : Nat → Nat) (h : xH) (yC : MethodName) (bC : ByteArray) (nC : Nat) (yM : MethodName) (bM : ByteArray) (nM : Nat) (ret : Option FieldType) (mc ms : Nat) (End : Option Value → Option Value → xH → Prop) : Prop :=
  ∃ d1 Q0, d1 ≤ 8 ∧ xM V yC bC nC ret d1 [.ref (A 0)] h mc ms Q0 ∧ ∀ v1 h1, Q0 v1 h1 → (∃ fs, h1 (A 10) = some (.inr (8, fs))) ∧ ∃ d' Q, d' ≤ 8 ∧ xM V yM bM nM ret d' [.ref (A 10)] h1 0 0 Q ∧ ∀ v h2, Q v h2 → End v1 v h2
