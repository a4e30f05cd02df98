/-! STATE of the run -/
abbrev oRu (st : Value) (gv on en fp sp : Int32) (tt : Int64) (rd : Nat) : va_E := .inr (3, [st, .int gv, .int on, .int en, .int fp, .int sp, .long tt, .ref rd])
theorem pOps.keepU {h h' : xH} {po : Nat → Option Nat} {n a : Nat} {pick : Nat → Int32} {ea e' : va_E} (p : pOps h po n pick) (u : h' = va_up h a (some e')) (fa : h a = some ea) (hn : nOp ea = true) : pOps h' po n pick := p.keep ((xKeep.rf.up (M := [a]) u (by simp)).ops (no_c fa hn no_n))
theorem pCds.keepU {h h' : xH} {co : Nat → Option Nat} {n a : Nat} {cf : Nat → tCd} {ea e' : va_E} (p : pCds h co n cf) (u : h' = va_up h a (some e')) (fa : h a = some ea) (hn : nOp ea = true) : pCds h' co n cf := p.keep ((xKeep.rf.up (M := [a]) u (by simp)).ops (no_c fa hn no_n))
theorem xOps.new {h h' : xH} {a : Nat} {e' : va_E} (u : h' = va_up h a (some e')) (n : h a = none) : xOps h h' := fun q e f _ => xUp_new u n f
theorem pOps.keepN {h h' : xH} {po : Nat → Option Nat} {n a : Nat} {pick : Nat → Int32} {e' : va_E} (p : pOps h po n pick) (u : h' = va_up h a (some e')) (z : h a = none) : pOps h' po n pick := p.keep (xOps.new u z)
theorem pCds.keepN {h h' : xH} {co : Nat → Option Nat} {n a : Nat} {cf : Nat → tCd} {e' : va_E} (p : pCds h co n cf) (u : h' = va_up h a (some e')) (z : h a = none) : pCds h' co n cf := p.keep (xOps.new u z)
theorem pOps.keepC {M : List Nat} {h h' : xH} {po : Nat → Option Nat} {n : Nat} {pick : Nat → Int32} (p : pOps h po n pick) (kp : xKeep M h h') (hM : ∀ q ∈ M, ∀ e, h q = some e → nOp e = true) : pOps h' po n pick := p.keep (kp.ops hM)
theorem pCds.keepC {M : List Nat} {h h' : xH} {co : Nat → Option Nat} {n : Nat} {cf : Nat → tCd} (p : pCds h co n cf) (kp : xKeep M h h') (hM : ∀ q ∈ M, ∀ e, h q = some e → nOp e = true) : pCds h' co n cf := p.keep (kp.ops hM)
/-- the row at 'passed' of n: from the front, or falling from the back -/
def plc (fa : Int32) (n i : Nat) : Nat := if fa = 0 then i else n - 1 - i
/-- what the cursors have read: a row of the first table from o1 on, one of the second from o2 on -/
def rdF (f g : Nat → Int32) (o1 : Nat) (o2 : Option Nat) : Nat → Int32 := match o2 with
  | none => va_cpy f g o1 0 6
  | some o => va_cpy f (va_cpy f g o1 0 6) o 10 6
/-- the parts of 'read' that no row covers -/
def rdE (se : Int32) (g g0 : Nat → Int32) : Prop := ∀ c, 6 ≤ c → (c < 10 ∨ 16 ≤ c ∨ se = -1) → g c = g0 c
theorem rdE.rf {se : Int32} {g : Nat → Int32} : rdE se g g := fun _ _ _ => rfl
theorem rdE.one {se : Int32} {f g g0 : Nat → Int32} {o : Nat} (h : rdE se g g0) : rdE se (va_cpy f g o 0 6) g0 := fun c h1 h2 => by
  rw [pk_cpy_out (Or.inr (by omega))]; exact h c h1 h2
theorem rdE.two {se : Int32} {f g g0 : Nat → Int32} {o : Nat} (h : rdE se g g0) (hs : ¬ se = -1) : rdE se (va_cpy f g o 10 6) g0 := fun c h1 h2 => by
  rw [pk_cpy_out (by rcases h2 with z | z | z; exact Or.inl z; exact Or.inr z; exact absurd z hs)]; exact h c h1 h2
theorem rd_one {f g g0 : Nat → Int32} {o : Nat} (h : rdE (-1) g g0) : va_cpy f g o 0 6 = rdF f g0 o none := by
  funext c
  show _ = va_cpy f g0 o 0 6 c
  by_cases hc : c < 6
  · rw [pk_cpy_in (by omega) (by omega), pk_cpy_in (by omega) (by omega)]
  · rw [pk_cpy_out (Or.inr (by omega)), pk_cpy_out (Or.inr (by omega))]; exact h c (by omega) (Or.inr (Or.inr rfl))
theorem rd_two {se : Int32} {f g g0 : Nat → Int32} {o o2 : Nat} (h : rdE se g g0) (h6 : ∀ c, c < 6 → g c = f (o + c)) : va_cpy f g o2 10 6 = rdF f g0 o (some o2) := by
  funext c
  show _ = va_cpy f (va_cpy f g0 o 0 6) o2 10 6 c
  by_cases hc : 10 ≤ c ∧ c < 16
  · rw [pk_cpy_in (by omega) (by omega), pk_cpy_in (by omega) (by omega)]
  · rw [pk_cpy_out (by omega), pk_cpy_out (by omega)]
    by_cases h9 : c < 6
    · rw [pk_cpy_in (by omega) (by omega), h6 c h9]; congr 1
    · rw [pk_cpy_out (Or.inr (by omega))]; exact h c (by omega) (by omega)
theorem plc_lt {fa : Int32} {n i : Nat} (hi : i < n) : plc fa n i < n := by
  unfold plc
  by_cases h : fa = 0
  · rw [if_pos h]; exact hi
  · rw [if_neg h]; omega
/-- what is behind the second table's cursor: nothing, where there is no second table -/
def sec (se fa : Int32) (z n2 j : Nat) : Option Nat := if se = -1 then none else some ((z + plc fa n2 j) * 6)
theorem nI_m1 {t : Nat} (ht : t < 2 ^ 31) : ¬ nI t = -1 := fun e => absurd (show (nI t).toInt = -1 by rw [e]; decide) (by rw [nI_toInt ht]; omega)
/-- the pair (a, b) is at or behind (i, j) -/
def bhd (i j a b : Nat) : Prop := i < a ∨ (a = i ∧ j ≤ b)
/-- no pair from (i, j) on and ahead of (i1, j1) is good -/
def bad (G : Nat → Nat → Bool) (n1 n2 i j i1 j1 : Nat) : Prop := ∀ a b, a < n1 → b < n2 → bhd i j a b → (a < i1 ∨ (a = i1 ∧ b < j1)) → G a b = false
theorem bad.rf {G : Nat → Nat → Bool} {n1 n2 i j : Nat} : bad G n1 n2 i j i j := fun a b _ _ h1 h2 => by unfold bhd at h1; omega
theorem bad.next {G : Nat → Nat → Bool} {n1 n2 i j i1 j1 : Nat} (h : bad G n1 n2 i j i1 j1) (hg : G i1 j1 = false) : bad G n1 n2 i j i1 (j1 + 1) := fun a b h1 h2 h3 h4 => by
  by_cases hz : a = i1 ∧ b = j1
  · rw [hz.1, hz.2]; exact hg
  · exact h a b h1 h2 h3 (by omega)
theorem bad.line {G : Nat → Nat → Bool} {n1 n2 i j i1 j1 : Nat} (h : bad G n1 n2 i j i1 j1) (hj : n2 ≤ j1) : bad G n1 n2 i j (i1 + 1) 0 := fun a b h1 h2 h3 h4 => h a b h1 h2 h3 (by omega)
