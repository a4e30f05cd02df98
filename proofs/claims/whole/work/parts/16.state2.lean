/-! STATE of the run -/
abbrev oRu (st : Value) (gv on en fp sp : Int32) (tt : Int64) (rd : Nat) : va_E := .inr (3, [st, .int gv, .int on, .int en, .int fp, .int sp, .long tt, .ref rd])
theorem pOps.keepU {h h' : xH} {po : Nat → Option Nat} {n a : Nat} {pick : Nat → Int32} {ea e' : va_E} (p : pOps h po n pick) (u : h' = va_up h a (some e')) (fa : h a = some ea) (hn : nOp ea = true) : pOps h' po n pick := p.keep ((xKeep.rf.up (M := [a]) u (by simp)).ops (no_c fa hn no_n))
theorem pCds.keepU {h h' : xH} {co : Nat → Option Nat} {n a : Nat} {cf : Nat → tCd} {ea e' : va_E} (p : pCds h co n cf) (u : h' = va_up h a (some e')) (fa : h a = some ea) (hn : nOp ea = true) : pCds h' co n cf := p.keep ((xKeep.rf.up (M := [a]) u (by simp)).ops (no_c fa hn no_n))
theorem xOps.new {h h' : xH} {a : Nat} {e' : va_E} (u : h' = va_up h a (some e')) (n : h a = none) : xOps h h' := fun q e f _ => xUp_new u n f
theorem pOps.keepN {h h' : xH} {po : Nat → Option Nat} {n a : Nat} {pick : Nat → Int32} {e' : va_E} (p : pOps h po n pick) (u : h' = va_up h a (some e')) (z : h a = none) : pOps h' po n pick := p.keep (xOps.new u z)
theorem pCds.keepN {h h' : xH} {co : Nat → Option Nat} {n a : Nat} {cf : Nat → tCd} {e' : va_E} (p : pCds h co n cf) (u : h' = va_up h a (some e')) (z : h a = none) : pCds h' co n cf := p.keep (xOps.new u z)
theorem pOps.keepC {M : List Nat} {h h' : xH} {po : Nat → Option Nat} {n : Nat} {pick : Nat → Int32} (p : pOps h po n pick) (kp : xKeep M h h') (hM : ∀ q ∈ M, ∀ e, h q = some e → nOp e = true) : pOps h' po n pick := p.keep (kp.ops hM)
theorem pCds.keepC {M : List Nat} {h h' : xH} {co : Nat → Option Nat} {n : Nat} {cf : Nat → tCd} (p : pCds h co n cf) (kp : xKeep M h h') (hM : ∀ q ∈ M, ∀ e, h q = some e → nOp e = true) : pCds h' co n cf := p.keep (kp.ops hM)
/-- the row at 'passed' of n: from the front, or falling from the back -/
def plc (fa : Int32) (n i : Nat) : Nat := if fa = 0 then i else n - 1 - i
/-- what the cursors have read: a row of the first table from o1 on, one of the second from o2 on -/
def rdF (f g : Nat → Int32) (o1 : Nat) (o2 : Option Nat) : Nat → Int32 := match o2 with
  | none => va_cpy f g o1 0 6
  | some o => va_cpy f (va_cpy f g o1 0 6) o 10 6
/-- the parts of 'read' that no row covers -/
def rdE (se : Int32) (g g0 : Nat → Int32) : Prop := ∀ c, 6 ≤ c → (c < 10 ∨ 16 ≤ c ∨ se = -1) → g c = g0 c
theorem rdE.rf {se : Int32} {g : Nat → Int32} : rdE se g g := fun _ _ _ => rfl
theorem rdE.one {se : Int32} {f g g0 : Nat → Int32} {o : Nat} (h : rdE se g g0) : rdE se (va_cpy f g o 0 6) g0 := fun c h1 h2 => by
  rw [pk_cpy_out (Or.inr (by omega))]; exact h c h1 h2
theorem rdE.two {se : Int32} {f g g0 : Nat → Int32} {o : Nat} (h : rdE se g g0) (hs : ¬ se = -1) : rdE se (va_cpy f g o 10 6) g0 := fun c h1 h2 => by
  rw [pk_cpy_out (by rcases h2 with z | z | z; exact Or.inl z; exact Or.inr z; exact absurd z hs)]; exact h c h1 h2
theorem rd_one {f g g0 : Nat → Int32} {o : Nat} (h : rdE (-1) g g0) : va_cpy f g o 0 6 = rdF f g0 o none := by
  funext c
  show _ = va_cpy f g0 o 0 6 c
  by_cases hc : c < 6
  · rw [pk_cpy_in (by omega) (by omega), pk_cpy_in (by omega) (by omega)]
  · rw [pk_cpy_out (Or.inr (by omega)), pk_cpy_out (Or.inr (by omega))]; exact h c (by omega) (Or.inr (Or.inr rfl))
theorem rd_two {se : Int32} {f g g0 : Nat → Int32} {o o2 : Nat} (h : rdE se g g0) (h6 : ∀ c, c < 6 → g c = f (o + c)) : va_cpy f g o2 10 6 = rdF f g0 o (some o2) := by
  funext c
  show _ = va_cpy f (va_cpy f g0 o 0 6) o2 10 6 c
  by_cases hc : 10 ≤ c ∧ c < 16
  · rw [pk_cpy_in (by omega) (by omega), pk_cpy_in (by omega) (by omega)]
  · rw [pk_cpy_out (by omega), pk_cpy_out (by omega)]
    by_cases h9 : c < 6
    · rw [pk_cpy_in (by omega) (by omega), h6 c h9]; congr 1
    · rw [pk_cpy_out (Or.inr (by omega))]; exact h c (by omega) (by omega)
theorem plc_lt {fa : Int32} {n i : Nat} (hi : i < n) : plc fa n i < n := by
  unfold plc
  by_cases h : fa = 0
  · rw [if_pos h]; exact hi
  · rw [if_neg h]; omega
/-- what is behind the second table's cursor: nothing, where there is no second table -/
def sec (se fa : Int32) (z n2 j : Nat) : Option Nat := if se = -1 then none else some ((z + plc fa n2 j) * 6)
theorem nI_m1 {t : Nat} (ht : t < 2 ^ 31) : ¬ nI t = -1 := fun e => absurd (show (nI t).toInt = -1 by rw [e]; decide) (by rw [nI_toInt ht]; omega)
/-- the pair (a, b) is at or behind (i, j) -/
def bhd (i j a b : Nat) : Prop := i < a ∨ (a = i ∧ j ≤ b)
/-- no pair from (i, j) on and ahead of (i1, j1) is good -/
def bad (G : Nat → Nat → Bool) (n1 n2 i j i1 j1 : Nat) : Prop := ∀ a b, a < n1 → b < n2 → bhd i j a b → (a < i1 ∨ (a = i1 ∧ b < j1)) → G a b = false
theorem bad.rf {G : Nat → Nat → Bool} {n1 n2 i j : Nat} : bad G n1 n2 i j i j := fun a b _ _ h1 h2 => by unfold bhd at h1; omega
theorem bad.next {G : Nat → Nat → Bool} {n1 n2 i j i1 j1 : Nat} (h : bad G n1 n2 i j i1 j1) (hg : G i1 j1 = false) : bad G n1 n2 i j i1 (j1 + 1) := fun a b h1 h2 h3 h4 => by
  by_cases hz : a = i1 ∧ b = j1
  · rw [hz.1, hz.2]; exact hg
  · exact h a b h1 h2 h3 (by omega)
theorem bad.line {G : Nat → Nat → Bool} {n1 n2 i j i1 j1 : Nat} (h : bad G n1 n2 i j i1 j1) (hj : n2 ≤ j1) : bad G n1 n2 i j (i1 + 1) 0 := fun a b h1 h2 h3 h4 => h a b h1 h2 h3 (by omega)
/-! sums over pairs -/
def sumRow (w : Nat → Int64) : Nat → Int64
  | 0 => 0
  | b + 1 => sumRow w b + w b
/-- the sum over all pairs ahead of (i, j) -/
def sumUp (w : Nat → Nat → Int64) (n2 : Nat) : Nat → Nat → Int64
  | 0, j => sumRow (w 0) j
  | i + 1, j => sumUp w n2 i n2 + sumRow (w (i + 1)) j
theorem sumRow_skip {w : Nat → Int64} {j : Nat} : ∀ k, (∀ b, j ≤ b → b < j + k → w b = 0) → sumRow w (j + k) = sumRow w j := by
  intro k
  induction k with
  | zero => intro _; rfl
  | succ k ih =>
    intro h
    show sumRow w (j + k) + w (j + k) = _
    rw [ih (fun b h1 h2 => h b h1 (by omega)), h (j + k) (by omega) (by omega), Int64.add_zero]
theorem sumUp_row {w : Nat → Nat → Int64} {n2 i j j' : Nat} (hj : j ≤ j') (h : ∀ b, j ≤ b → b < j' → w i b = 0) : sumUp w n2 i j' = sumUp w n2 i j := by
  obtain ⟨k, rfl⟩ : ∃ k, j' = j + k := ⟨j' - j, by omega⟩
  cases i with
  | zero => exact sumRow_skip k h
  | succ i =>
    show sumUp w n2 i n2 + sumRow (w (i + 1)) (j + k) = sumUp w n2 i n2 + sumRow (w (i + 1)) j
    rw [sumRow_skip k h]
theorem sumUp_line {w : Nat → Nat → Int64} {n2 i : Nat} : sumUp w n2 (i + 1) 0 = sumUp w n2 i n2 := by
  show sumUp w n2 i n2 + sumRow (w (i + 1)) 0 = _
  exact Int64.add_zero _
theorem sumUp_next {w : Nat → Nat → Int64} {n2 i j : Nat} : sumUp w n2 i (j + 1) = sumUp w n2 i j + w i j := by
  cases i with
  | zero => rfl
  | succ i =>
    show sumUp w n2 i n2 + (sumRow (w (i + 1)) j + w (i + 1) j) = sumUp w n2 i n2 + sumRow (w (i + 1)) j + w (i + 1) j
    rw [Int64.add_assoc]
/-- what is bad adds nothing -/
theorem sumUp_bad {G : Nat → Nat → Bool} {val : Nat → Nat → Int64} {n1 n2 i j : Nat} (hj : j ≤ n2) : ∀ d i' j', i' = i + d → i' ≤ n1 → j' ≤ n2 → (i' = n1 → j' = 0 ∨ i' = i) → (d = 0 → j ≤ j') → (∀ a b, a < n1 → b < n2 → bhd i j a b → (a < i' ∨ (a = i' ∧ b < j')) → G a b = false) → (i' = n1 → d = 0 → j' = j) → sumUp (fun a b => if G a b = true then val a b else 0) n2 i' j' = sumUp (fun a b => if G a b = true then val a b else 0) n2 i j := by
  intro d
  induction d with
  | zero =>
    intro i' j' hi hi1 hj' h0 hjj h hz
    have hi : i' = i := by omega
    subst hi
    by_cases hn : i' = n1
    · rw [hz hn rfl]
    · exact sumUp_row (hjj rfl) (fun b h1 h2 => by rw [h i' b (by omega) (by omega) (Or.inr ⟨rfl, h1⟩) (Or.inr ⟨rfl, h2⟩)]; rfl)
  | succ d ih =>
    intro i' j' hi hi1 hj' h0 hjj h hz
    have hi : i' = i + d + 1 := by omega
    subst hi
    have h3 : sumUp (fun a b => if G a b = true then val a b else 0) n2 (i + d + 1) j' = sumUp (fun a b => if G a b = true then val a b else 0) n2 (i + d + 1) 0 := by
      by_cases hn : i + d + 1 = n1
      · rcases h0 hn with z | z
        · rw [z]
        · omega
      · exact sumUp_row (by omega) (fun b h1 h2 => by rw [h (i + d + 1) b (by omega) (by omega) (Or.inl (by omega)) (Or.inr ⟨rfl, h2⟩)]; rfl)
    rw [h3, sumUp_line]
    by_cases hd : d = 0
    · subst hd
      exact sumUp_row hj (fun b h1 h2 => by show (if G i b = true then val i b else 0) = 0; rw [h i b (by omega) h2 (Or.inr ⟨rfl, h1⟩) (Or.inl (by omega))]; rfl)
    · exact ih (i + d) n2 rfl (by omega) (Nat.le_refl _) (fun z => by omega) (fun z => absurd z hd) (fun a b h1 h2 h3 h4 => h a b h1 h2 h3 (by omega)) (fun z => by omega)
theorem pos_le {n2 i j i' j' k : Nat} (hj : j ≤ n2) (hb : bhd i j i' j') (hk : k ≤ i * n2 + j) : k + 1 ≤ i' * n2 + (j' + 1) := by
  rcases hb with h | ⟨h1, h2⟩
  · have := Nat.mul_le_mul_right n2 (show i + 1 ≤ i' from h)
    rw [Nat.add_mul, Nat.one_mul] at this
    omega
  · subst h1; omega
theorem pos_end {n1 n2 i j : Nat} (h1 : n1 ≤ 400) (h2 : n2 ≤ 400) (hi : i ≤ n1) (hj : j ≤ n2) (hk : 160000 ≤ i * n2 + j) : n1 ≤ i ∨ (n1 = i + 1 ∧ n2 ≤ j) := by
  rcases Nat.lt_or_ge i n1 with h | h
  · right
    have hi9 : i ≤ 399 := by omega
    have a1 : i * n2 ≤ i * 400 := Nat.mul_le_mul_left i h2
    have a2 : i * n2 ≤ 399 * n2 := Nat.mul_le_mul_right n2 hi9
    omega
  · exact Or.inl h
theorem rdE.tr {se : Int32} {a b c : Nat → Int32} (h : rdE se a b) (h2 : rdE se b c) : rdE se a c := fun x h1 h3 => (h x h1 h3).trans (h2 x h1 h3)
theorem rdF_base {se fa : Int32} {f g1 g : Nat → Int32} {o z n2 b : Nat} (h : rdE se g1 g) : rdF f g1 o (sec se fa z n2 b) = rdF f g o (sec se fa z n2 b) := by
  unfold sec
  by_cases hs : se = -1
  · rw [if_pos hs]
    subst hs
    exact rd_one h
  · rw [if_neg hs]
    exact rd_two h.one (fun c hc => by rw [pk_cpy_in (by omega) (by omega)]; congr 1)
theorem gd_base {se fa : Int32} {f g1 g : Nat → Int32} {z n2 kc : Nat} {cf : Nat → tCd} (o : Nat → Nat) (h : rdE se g1 g) : (fun a b => cdsVal kc cf (rdF f g1 (o a) (sec se fa z n2 b))) = (fun a b => cdsVal kc cf (rdF f g (o a) (sec se fa z n2 b))) := by
  funext a b
  rw [rdF_base h]
